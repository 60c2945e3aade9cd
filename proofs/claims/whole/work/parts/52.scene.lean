/- needs: 51.week -/
/-! the class's scene: the states that are kept -/
theorem tR_k {s : sg} {a r : Nat} {i : Int32} (h : kc a = 25 ∧ inB i (kn a) = true ∧ kc r = 9) : tR "CloudTakes$State" 9 (mk s) a i r = some (mk (sR s a i.toNatClampNeg r)) := tR_mk (kd_p h.1 rfl) (inB_A h.2.1) h.2.2
def scA (c : Nat) : Prop := c = 37 ∨ c = 207
def scO (c : Nat) : Prop := kc c = 5 ∧ stO (c + 1) ∧ kc (c + 5) = 25 ∧ kn (c + 5) = 40 ∧ kc (c + 6) = 20 ∧ kn (c + 6) = 8 ∧ kc (c + 7) = 20 ∧ kn (c + 7) = 8 ∧ kc (c + 8) = 22 ∧ kn (c + 8) = 8 ∧ kc (c + 9) = 20 ∧ kn (c + 9) = 3
theorem scA_O {c : Nat} (h : scA c) : scO c := by
  rcases h with rfl | rfl <;> exact ⟨rfl, ⟨rfl, rfl, rfl, rfl, rfl, rfl⟩, rfl, rfl, rfl, rfl, rfl, rfl, rfl, rfl, rfl, rfl⟩
def bfO (c a : Nat) : Prop := ∃ k, k < 40 ∧ a = c + 10 + 4 * k
theorem bf_t : ∀ k, k < 40 → (kc (47 + 4 * k) = 9 ∧ kc (48 + 4 * k) = 20 ∧ kn (48 + 4 * k) = 8 ∧ kc (49 + 4 * k) = 8 ∧ kc (50 + 4 * k) = 20 ∧ kn (50 + 4 * k) = 15) ∧ (kc (217 + 4 * k) = 9 ∧ kc (218 + 4 * k) = 20 ∧ kn (218 + 4 * k) = 8 ∧ kc (219 + 4 * k) = 8 ∧ kc (220 + 4 * k) = 20 ∧ kn (220 + 4 * k) = 15) := by decide +kernel
theorem bf_O {c a : Nat} (hc : scA c) (h : bfO c a) : stO a := by
  obtain ⟨k, hk, rfl⟩ := h
  have := bf_t k hk
  unfold stO skO
  rcases hc with rfl | rfl
  · rw [show 37 + 10 + 4 * k = 47 + 4 * k by omega, show 47 + 4 * k + 1 = 48 + 4 * k by omega, show 47 + 4 * k + 2 = 49 + 4 * k by omega, show 49 + 4 * k + 1 = 50 + 4 * k by omega]
    exact this.1
  · rw [show 207 + 10 + 4 * k = 217 + 4 * k by omega, show 217 + 4 * k + 1 = 218 + 4 * k by omega, show 217 + 4 * k + 2 = 219 + 4 * k by omega, show 219 + 4 * k + 1 = 220 + 4 * k by omega]
    exact this.2
theorem bf_le {c a : Nat} (h : bfO c a) : c + 10 ≤ a ∧ a + 3 < c + 170 := by
  obtain ⟨k, hk, rfl⟩ := h
  omega
theorem bf_ne {c a b : Nat} (h : bfO c a) (h' : bfO c b) (hn : a ≠ b) : a + 3 < b ∨ b + 3 < a := by
  obtain ⟨k, hk, rfl⟩ := h
  obtain ⟨k', hk', rfl⟩ := h'
  omega
/-- the row of the kept states: each in its own place -/
def Pm (s : sg) (c : Nat) : Prop := (∀ i, i < 40 → bfO c (s.2.1 (c + 5) i)) ∧ ∀ i j, i < 40 → j < 40 → s.2.1 (c + 5) i = s.2.1 (c + 5) j → i = j
def HsC (s : sg) (c na : Nat) (hs : Nat → Nat → Int32) (hk : Nat → Nat → Bool) : Prop := s.1 c 2 = nI na ∧ ∀ i, i < na → SAt s (s.2.1 (c + 5) i) (hs i) (hk i)
theorem Pm_fr {Q : Nat → Nat → Prop} {s s' : sg} {c : Nat} (h : Pm s c) (f : Fr Q s s') (hq : ∀ j, ¬ Q (c + 5) j) : Pm s' c := by
  have e : ∀ i, s'.2.1 (c + 5) i = s.2.1 (c + 5) i := fun i => f.2.1 _ _ (hq i)
  refine ⟨fun i hi => ?_, fun i j hi hj g => ?_⟩
  · rw [e]; exact h.1 i hi
  · rw [e, e] at g; exact h.2 i j hi hj g
theorem HsC_fr {Q : Nat → Nat → Prop} {s s' : sg} {c na : Nat} {hs : Nat → Nat → Int32} {hk : Nat → Nat → Bool} (h : HsC s c na hs hk) (hp : Pm s c) (hna : na ≤ 40) (f : Fr Q s s') (hq : ∀ j, ¬ Q (c + 5) j) (h2 : ¬ Q c 2) (h3 : ∀ x j, c + 10 ≤ x → x < c + 170 → ¬ Q x j) : HsC s' c na hs hk := by
  refine ⟨(f.1 _ _ h2).trans h.1, fun i hi => ?_⟩
  have e : s'.2.1 (c + 5) i = s.2.1 (c + 5) i := f.2.1 _ _ (hq i)
  have hb := bf_le (hp.1 i (by omega))
  rw [e]
  exact SAt_fr (h.2 i hi) f (fun x j g1 g2 => h3 x j (by omega) (by omega))
def naK (na : Nat) : Nat := if na = 40 then 40 else na + 1
def hsK {α : Type} (na : Nat) (hs : Nat → α) (x : α) : Nat → α := fun i => if na = 40 then (if i = 39 then x else hs (i + 1)) else if i = na then x else hs i
def kD (c x j : Nat) : Prop := x = c + 5 ∨ (x = c ∧ j = 2) ∨ (c + 10 ≤ x ∧ x < c + 170)
section SC
variable {N : Nat} {s : sg} {K : Nat → Bool} {st : Nat → Int32} {c na : Nat} {hs : Nat → Nat → Int32} {hk : Nat → Nat → Bool}
theorem c_drop9 (hc : scA c) {r : Nat} (hr : kc r = 9) : ∀ (f i : Nat) (s : sg), 39 - i < f → i ≤ 39 → (∀ j, j < 40 → kc (s.2.1 (c + 5) j) = 9) → ∃ s', lX5_dropOldestAct_9 N f c r (nI (i + 1)) (mk s) = some (.inl (), mk s') ∧ (∀ j, j < i → s'.2.1 (c + 5) j = s.2.1 (c + 5) j) ∧ (∀ j, i ≤ j → j < 39 → s'.2.1 (c + 5) j = s.2.1 (c + 5) (j + 1)) ∧ s'.2.1 (c + 5) 39 = r ∧ s'.1 c 2 = nI 39 ∧ Fr (fun x j => x = c + 5 ∨ (x = c ∧ j = 2)) s s' := by
  obtain ⟨o0, o1, o2, o3, _⟩ := scA_O hc
  intro f
  induction f with
  | zero => intro i s hf; omega
  | succ f ih =>
    intro i s hf hi hk
    show ∃ s', bX5_dropOldestAct_9 N (lX5_dropOldestAct_9 N f) c r (nI (i + 1)) (mk s) = _ ∧ _
    unfold bX5_dropOldestAct_9
    by_cases h : 39 ≤ i
    · rw [if_pos (show (40 : Int32) ≤ nI (i + 1) from nI_le (a := 40) (by omega) (by omega))]
      unfold bX5_dropOldestAct_35
      have i39 : inB 39 (kn (c + 5)) = true := by rw [o3]; decide
      simp (decide := true) only [ob_s, cS_l, cS_r, gI_k, gR_k, pI_k, pR_k, cV_k, aI_k, tI_k, rZ_0, rZ_1, rZ_i, aB_k, tB_k, aZ_k, tZ_k, aR_24, aR_25, aR_27, rf_0_6, rf_0_7, rf_0_8, rf_0_9, rf_1_0, rf_1_1, rf_2_2, rf_3_6, rf_3_7, rf_3_8, rf_4_1, rf_4_3, rf_4_4, rf_5_0, rf_5_1, rf_5_3, rf_5_4, rf_5_5, rf_5_7, rf_6_4, rf_6_9, rf_6_10, rf_6_11, rf_6_12, rf_6_5, rf_8_0, rf_9_7, rf_9_8, rf_10_2, rf_11_0, rf_11_5, rf_11_6, rf_11_7, rf_11_9, rf_11_10, rf_11_11, rf_11_12, rf_24, rf_27, o0, tR_k, o2, i39, hr]
      refine ⟨_, rfl, fun j hj => ?_, fun j g1 g2 => by omega, ?_, ?_, ?_⟩
      · rw [sI_2, sR_2, if_neg (fun g => by have := g.2; rw [show (39 : Int32).toNatClampNeg = 39 from rfl] at this; omega)]
      · rw [sI_2, sR_2, if_pos ⟨rfl, rfl⟩]
      · rw [sI_at]; rfl
      · exact Fr_t (Fr_sR (Or.inl rfl)) (Fr_sI (Or.inr ⟨rfl, rfl⟩))
    · rw [if_neg (show ¬ (40 : Int32) ≤ nI (i + 1) from nI_ge (b := 40) (by omega) (by omega))]
      have i1 : inB (nI (i + 1)) (kn (c + 5)) = true := by rw [o3]; exact inA_nI (by omega) (by omega)
      have i2 : inB (nI i) (kn (c + 5)) = true := by rw [o3]; exact inA_nI (by omega) (by omega)
      rw [nI_pred, nI_1]
      have hki := hk (i + 1) (by omega)
      simp (decide := true) only [ob_s, cS_l, cS_r, gI_k, gR_k, pI_k, pR_k, cV_k, aI_k, tI_k, rZ_0, rZ_1, rZ_i, aB_k, tB_k, aZ_k, tZ_k, aR_24, aR_25, aR_27, rf_0_6, rf_0_7, rf_0_8, rf_0_9, rf_1_0, rf_1_1, rf_2_2, rf_3_6, rf_3_7, rf_3_8, rf_4_1, rf_4_3, rf_4_4, rf_5_0, rf_5_1, rf_5_3, rf_5_4, rf_5_5, rf_5_7, rf_6_4, rf_6_9, rf_6_10, rf_6_11, rf_6_12, rf_6_5, rf_8_0, rf_9_7, rf_9_8, rf_10_2, rf_11_0, rf_11_5, rf_11_6, rf_11_7, rf_11_9, rf_11_10, rf_11_11, rf_11_12, rf_24, rf_27, o0, tR_k, o2, i1, i2, nI_clamp (show i + 1 < 2 ^ 31 by omega), nI_clamp (show i < 2 ^ 31 by omega), hki]
      have f1 : Fr (fun x j => x = c + 5 ∨ (x = c ∧ j = 2)) s (sR s (c + 5) i (s.2.1 (c + 5) (i + 1))) := Fr_sR (Or.inl rfl)
      obtain ⟨s', b1, b2, b3, b4, b5, b6⟩ := ih (i + 1) (sR s (c + 5) i (s.2.1 (c + 5) (i + 1))) (by omega) (by omega) (fun j hj => by
        rw [sR_2]
        by_cases e : j = i
        · rw [if_pos ⟨rfl, e⟩]; exact hki
        · rw [if_neg (fun g => e g.2)]; exact hk j hj)
      refine ⟨s', b1, fun j hj => ?_, fun j g1 g2 => ?_, b4, b5, Fr_t f1 b6⟩
      · rw [b2 j (by omega), sR_2, if_neg (fun g => by have := g.2; omega)]
      · by_cases e : j = i
        · rw [e, b2 i (by omega), sR_2, if_pos ⟨rfl, rfl⟩]
        · rw [b3 j (by omega) g2, sR_2, if_neg (fun g => by have := g.2; omega)]
theorem c_drop (hN1 : 1000 ≤ N) (hc : scA c) (hp : Pm s c) (hh : HsC s c 40 hs hk) : ∃ s', fX5_dropOldestAct N c (mk s) = some (.inl (), mk s') ∧ Pm s' c ∧ HsC s' c 39 (fun i => hs (i + 1)) (fun i => hk (i + 1)) ∧ Fr (fun x j => x = c + 5 ∨ (x = c ∧ j = 2)) s s' := by
  obtain ⟨o0, o1, o2, o3, _⟩ := scA_O hc
  obtain ⟨s', b1, b2, b3, b4, b5, b6⟩ := c_drop9 (N := N) hc (r := s.2.1 (c + 5) 0) (bf_O hc (hp.1 0 (by omega))).1 N 0 s (by omega) (by omega) (fun j hj => (bf_O hc (hp.1 j hj)).1)
  have hval : ∀ j, j < 40 → s'.2.1 (c + 5) j = s.2.1 (c + 5) (if j = 39 then 0 else j + 1) := fun j hj => by
    by_cases e : j = 39
    · rw [if_pos e, e]; exact b4
    · rw [if_neg e]; exact b3 j (by omega) (by omega)
  refine ⟨s', ?_, ⟨fun i hi => ?_, fun i j hi hj g => ?_⟩, ⟨b5, fun i hi => ?_⟩, b6⟩
  · unfold fX5_dropOldestAct bX5_dropOldestAct_0
    have i0 : inB 0 (kn (c + 5)) = true := by rw [o3]; decide
    simp (decide := true) only [ob_s, cS_l, cS_r, gI_k, gR_k, pI_k, pR_k, cV_k, aI_k, tI_k, rZ_0, rZ_1, rZ_i, aB_k, tB_k, aZ_k, tZ_k, aR_24, aR_25, aR_27, rf_0_6, rf_0_7, rf_0_8, rf_0_9, rf_1_0, rf_1_1, rf_2_2, rf_3_6, rf_3_7, rf_3_8, rf_4_1, rf_4_3, rf_4_4, rf_5_0, rf_5_1, rf_5_3, rf_5_4, rf_5_5, rf_5_7, rf_6_4, rf_6_9, rf_6_10, rf_6_11, rf_6_12, rf_6_5, rf_8_0, rf_9_7, rf_9_8, rf_10_2, rf_11_0, rf_11_5, rf_11_6, rf_11_7, rf_11_9, rf_11_10, rf_11_11, rf_11_12, rf_24, rf_27, o0, o2, i0]
    exact b1
  · rw [hval i hi]
    exact hp.1 _ (by split <;> omega)
  · rw [hval i hi, hval j hj] at g
    have := hp.2 _ _ (by split <;> omega) (by split <;> omega) g
    split at this <;> split at this <;> omega
  · rw [hval i (by omega), if_neg (by omega)]
    have hb := bf_le (hp.1 (i + 1) (by omega))
    exact SAt_fr (hh.2 (i + 1) (by omega)) b6 (fun x j g1 g2 => by omega)
theorem c_keep13 (hc : scA c) (hp : Pm s c) (hna : na < 40) (hh : HsC s c na hs hk) (hS : SAt s (c + 1) st K) (hz : bz st) : ∃ s', bX5_keepAct_13 N c (mk s) = some (.inl (), mk s') ∧ Pm s' c ∧ HsC s' c (na + 1) (fun i => if i = na then st else hs i) (fun i => if i = na then K else hk i) ∧ Fr (fun x j => (x = c ∧ j = 2) ∨ (c + 10 ≤ x ∧ x < c + 170)) s s' := by
  obtain ⟨o0, o1, o2, o3, _⟩ := scA_O hc
  have hb := hp.1 na hna
  have hb2 := bf_le hb
  obtain ⟨s1, a1, a2, a3⟩ := c_stCopy (N := N) (bf_O hc hb) o1 (by omega) hS hz
  have e2 : s1.1 c 2 = nI na := (a3.1 _ _ (by unfold stD; omega)).trans hh.1
  have f1 : Fr (fun x j => (x = c ∧ j = 2) ∨ (c + 10 ≤ x ∧ x < c + 170)) s s1 := Fr_m a3 (fun x j g => by unfold stD at g; omega)
  have f2 : Fr (fun x j => x = c ∧ j = 2) s1 (sI s1 c 2 (nI (na + 1))) := Fr_sI ⟨rfl, rfl⟩
  have f12 := Fr_t f1 (Fr_m f2 (fun x j g => Or.inl g))
  refine ⟨sI s1 c 2 (nI (na + 1)), ?_, Pm_fr hp f12 (by intros; omega), ⟨sI_at _ _ _ _, fun i hi => ?_⟩, f12⟩
  · unfold bX5_keepAct_13
    have i1 : inB (nI na) (kn (c + 5)) = true := by rw [o3]; exact inA_nI (by omega) (by omega)
    simp (decide := true) only [ob_s, cS_l, cS_r, gI_k, gR_k, pI_k, pR_k, cV_k, aI_k, tI_k, rZ_0, rZ_1, rZ_i, aB_k, tB_k, aZ_k, tZ_k, aR_24, aR_25, aR_27, rf_0_6, rf_0_7, rf_0_8, rf_0_9, rf_1_0, rf_1_1, rf_2_2, rf_3_6, rf_3_7, rf_3_8, rf_4_1, rf_4_3, rf_4_4, rf_5_0, rf_5_1, rf_5_3, rf_5_4, rf_5_5, rf_5_7, rf_6_4, rf_6_9, rf_6_10, rf_6_11, rf_6_12, rf_6_5, rf_8_0, rf_9_7, rf_9_8, rf_10_2, rf_11_0, rf_11_5, rf_11_6, rf_11_7, rf_11_9, rf_11_10, rf_11_11, rf_11_12, rf_24, rf_27, o0, o2, hh.1, i1, nI_clamp (show na < 2 ^ 31 by omega), (bf_O hc hb).1, a1, e2, nI_1]
  · have er : (sI s1 c 2 (nI (na + 1))).2.1 (c + 5) i = s.2.1 (c + 5) i := f12.2.1 _ _ (by omega)
    rw [er]
    show SAt (sI s1 c 2 (nI (na + 1))) (s.2.1 (c + 5) i) (if i = na then st else hs i) (if i = na then K else hk i)
    have hbi := hp.1 i (by omega)
    have hbi2 := bf_le hbi
    by_cases e : i = na
    · rw [e, if_pos rfl, if_pos rfl]
      exact SAt_fr a2 f2 (fun x j g1 g2 => by omega)
    · rw [if_neg e, if_neg e]
      have hne := bf_ne hbi hb (fun g => e (hp.2 _ _ (by omega) hna g))
      have hsi := SAt_fr (hh.2 i (by omega)) a3 (fun x j g1 g2 g => by unfold stD at g; omega)
      exact SAt_fr hsi f2 (fun x j g1 g2 => by omega)
theorem c_keep (hN1 : 1000 ≤ N) (hc : scA c) (hp : Pm s c) (hna : na ≤ 40) (hh : HsC s c na hs hk) (hS : SAt s (c + 1) st K) (hz : bz st) : ∃ s', fX5_keepAct N c (mk s) = some (.inl (), mk s') ∧ Pm s' c ∧ HsC s' c (naK na) (hsK na hs st) (hsK na hk K) ∧ Fr (kD c) s s' := by
  obtain ⟨o0, o1, o2, o3, _⟩ := scA_O hc
  unfold fX5_keepAct bX5_keepAct_0
  by_cases e : na = 40
  · subst e
    obtain ⟨s1, a1, a2, a3, a4⟩ := c_drop (N := N) hN1 hc hp hh
    have hS1 := SAt_fr hS a4 (fun x j g1 g2 => by omega)
    obtain ⟨s2, b1, b2, b3, b4⟩ := c_keep13 (N := N) hc a2 (by omega) a3 hS1 hz
    refine ⟨s2, ?_, b2, ?_, Fr_t (Fr_m a4 (fun x j g => by unfold kD; omega)) (Fr_m b4 (fun x j g => by unfold kD; omega))⟩
    · have e2 : s.1 c 2 = 40 := hh.1
      simp (decide := true) only [ob_s, cS_l, cS_r, gI_k, gR_k, pI_k, pR_k, cV_k, aI_k, tI_k, rZ_0, rZ_1, rZ_i, aB_k, tB_k, aZ_k, tZ_k, aR_24, aR_25, aR_27, rf_0_6, rf_0_7, rf_0_8, rf_0_9, rf_1_0, rf_1_1, rf_2_2, rf_3_6, rf_3_7, rf_3_8, rf_4_1, rf_4_3, rf_4_4, rf_5_0, rf_5_1, rf_5_3, rf_5_4, rf_5_5, rf_5_7, rf_6_4, rf_6_9, rf_6_10, rf_6_11, rf_6_12, rf_6_5, rf_8_0, rf_9_7, rf_9_8, rf_10_2, rf_11_0, rf_11_5, rf_11_6, rf_11_7, rf_11_9, rf_11_10, rf_11_11, rf_11_12, rf_24, rf_27, o0, e2, a1, if_false]
      exact b1
    · have e1 : (hsK 40 hs st) = fun i => if i = 39 then st else hs (i + 1) := by
        funext i
        unfold hsK
        rw [if_pos rfl]
      have e2 : (hsK 40 hk K) = fun i => if i = 39 then K else hk (i + 1) := by
        funext i
        unfold hsK
        rw [if_pos rfl]
      rw [e1, e2]
      exact b3
  · obtain ⟨s2, b1, b2, b3, b4⟩ := c_keep13 (N := N) hc hp (by omega) hh hS hz
    refine ⟨s2, ?_, b2, ?_, Fr_m b4 (fun x j g => by unfold kD; omega)⟩
    · have e2 : ¬ s.1 c 2 = 40 := by
        rw [hh.1]
        exact fun g => e ((nI_inj (a := na) (b := 40) (by omega) (by omega)).mp g)
      simp (decide := true) only [ob_s, cS_l, cS_r, gI_k, gR_k, pI_k, pR_k, cV_k, aI_k, tI_k, rZ_0, rZ_1, rZ_i, aB_k, tB_k, aZ_k, tZ_k, aR_24, aR_25, aR_27, rf_0_6, rf_0_7, rf_0_8, rf_0_9, rf_1_0, rf_1_1, rf_2_2, rf_3_6, rf_3_7, rf_3_8, rf_4_1, rf_4_3, rf_4_4, rf_5_0, rf_5_1, rf_5_3, rf_5_4, rf_5_5, rf_5_7, rf_6_4, rf_6_9, rf_6_10, rf_6_11, rf_6_12, rf_6_5, rf_8_0, rf_9_7, rf_9_8, rf_10_2, rf_11_0, rf_11_5, rf_11_6, rf_11_7, rf_11_9, rf_11_10, rf_11_11, rf_11_12, rf_24, rf_27, o0, e2, if_true]
      exact b1
    · have e0 : naK na = na + 1 := by unfold naK; rw [if_neg e]
      have e1 : (hsK na hs st) = fun i => if i = na then st else hs i := by
        funext i
        unfold hsK
        rw [if_neg e]
      have e2 : (hsK na hk K) = fun i => if i = na then K else hk i := by
        funext i
        unfold hsK
        rw [if_neg e]
      rw [e0, e1, e2]
      exact b3
theorem c_back (hc : scA c) (hp : Pm s c) (hna : na < 40) (hh : HsC s c (na + 1) hs hk) (hz : bz (hs na)) : ∃ s', fX5_goesBack N c (mk s) = some (.inl 1, mk s') ∧ Pm s' c ∧ HsC s' c na hs hk ∧ SAt s' (c + 1) (hs na) (hk na) ∧ Fr (fun x j => (x = c ∧ j = 2) ∨ (c + 1 ≤ x ∧ x ≤ c + 4)) s s' := by
  obtain ⟨o0, o1, o2, o3, _⟩ := scA_O hc
  have f1 : Fr (fun x j => x = c ∧ j = 2) s (sI s c 2 (nI na)) := Fr_sI ⟨rfl, rfl⟩
  have hb := hp.1 na hna
  have hb2 := bf_le hb
  have hS1 : SAt (sI s c 2 (nI na)) (s.2.1 (c + 5) na) (hs na) (hk na) := SAt_fr (hh.2 na (by omega)) f1 (fun x j g1 g2 => by omega)
  obtain ⟨s2, a1, a2, a3⟩ := c_stCopy (N := N) o1 (bf_O hc hb) (by omega) hS1 hz
  have f2 : Fr (fun x j => (x = c ∧ j = 2) ∨ (c + 1 ≤ x ∧ x ≤ c + 4)) s s2 := Fr_t (Fr_m f1 (fun x j g => Or.inl g)) (Fr_m a3 (fun x j g => by unfold stD at g; omega))
  have e2 : s2.1 c 2 = nI na := (a3.1 _ _ (by unfold stD; omega)).trans (sI_at _ _ _ _)
  refine ⟨s2, ?_, Pm_fr hp f2 (by intros; omega), ⟨e2, fun i hi => ?_⟩, a2, f2⟩
  · unfold fX5_goesBack bX5_goesBack_0
    have i1 : inB (nI na) (kn (c + 5)) = true := by rw [o3]; exact inA_nI (by omega) (by omega)
    simp (decide := true) only [ob_s, cS_l, cS_r, gI_k, gR_k, pI_k, pR_k, cV_k, aI_k, tI_k, rZ_0, rZ_1, rZ_i, aB_k, tB_k, aZ_k, tZ_k, aR_24, aR_25, aR_27, rf_0_6, rf_0_7, rf_0_8, rf_0_9, rf_1_0, rf_1_1, rf_2_2, rf_3_6, rf_3_7, rf_3_8, rf_4_1, rf_4_3, rf_4_4, rf_5_0, rf_5_1, rf_5_3, rf_5_4, rf_5_5, rf_5_7, rf_6_4, rf_6_9, rf_6_10, rf_6_11, rf_6_12, rf_6_5, rf_8_0, rf_9_7, rf_9_8, rf_10_2, rf_11_0, rf_11_5, rf_11_6, rf_11_7, rf_11_9, rf_11_10, rf_11_11, rf_11_12, rf_24, rf_27, o0, o2, hh.1]
    rw [if_pos (nI_ne0 (by omega) (by omega)), nI_pred]
    simp (decide := true) only [ob_s, cS_l, cS_r, gI_k, gR_k, pI_k, pR_k, cV_k, aI_k, tI_k, rZ_0, rZ_1, rZ_i, aB_k, tB_k, aZ_k, tZ_k, aR_24, aR_25, aR_27, rf_0_6, rf_0_7, rf_0_8, rf_0_9, rf_1_0, rf_1_1, rf_2_2, rf_3_6, rf_3_7, rf_3_8, rf_4_1, rf_4_3, rf_4_4, rf_5_0, rf_5_1, rf_5_3, rf_5_4, rf_5_5, rf_5_7, rf_6_4, rf_6_9, rf_6_10, rf_6_11, rf_6_12, rf_6_5, rf_8_0, rf_9_7, rf_9_8, rf_10_2, rf_11_0, rf_11_5, rf_11_6, rf_11_7, rf_11_9, rf_11_10, rf_11_11, rf_11_12, rf_24, rf_27, o0, o1.1, o2, sI_at, i1, nI_clamp (show na < 2 ^ 31 by omega), sI_2, a1]
  · have er : s2.2.1 (c + 5) i = s.2.1 (c + 5) i := f2.2.1 _ _ (by omega)
    rw [er]
    have hbi2 := bf_le (hp.1 i (by omega))
    exact SAt_fr (hh.2 i (by omega)) f2 (fun x j g1 g2 => by omega)
theorem c_back0 (hc : scA c) (hh : HsC s c 0 hs hk) : fX5_goesBack N c (mk s) = some (.inl 0, mk s) := by
  obtain ⟨o0, o1, o2, o3, _⟩ := scA_O hc
  have e2 : s.1 c 2 = 0 := hh.1
  unfold fX5_goesBack bX5_goesBack_0
  simp (decide := true) only [ob_s, cS_l, cS_r, gI_k, gR_k, pI_k, pR_k, cV_k, aI_k, tI_k, rZ_0, rZ_1, rZ_i, aB_k, tB_k, aZ_k, tZ_k, aR_24, aR_25, aR_27, rf_0_6, rf_0_7, rf_0_8, rf_0_9, rf_1_0, rf_1_1, rf_2_2, rf_3_6, rf_3_7, rf_3_8, rf_4_1, rf_4_3, rf_4_4, rf_5_0, rf_5_1, rf_5_3, rf_5_4, rf_5_5, rf_5_7, rf_6_4, rf_6_9, rf_6_10, rf_6_11, rf_6_12, rf_6_5, rf_8_0, rf_9_7, rf_9_8, rf_10_2, rf_11_0, rf_11_5, rf_11_6, rf_11_7, rf_11_9, rf_11_10, rf_11_11, rf_11_12, rf_24, rf_27, o0, e2, if_false]
end SC
