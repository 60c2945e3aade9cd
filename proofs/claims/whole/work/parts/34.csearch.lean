/- needs: 33.rmost -/
/-! the class's search: chances, ends -/
def CPl (s : sg) (p : Nat) (P : pln) (n D mv : Nat) : Prop := s.1 p 0 = nI D ∧ s.1 p 1 = nI mv ∧ s.1 p 3 = nI n ∧ ∀ k, k < n → ShAt s (p + 1 + 7 + k) P k
def plA (p : Nat) : Prop := p = 2 ∨ p = 18
theorem plA_O {p : Nat} (h : plA p) : plO p := by
  rcases h with rfl | rfl <;> exact ⟨rfl, rfl, rfl, by decide, rfl, rfl, rfl⟩
theorem plA_le {p : Nat} (h : plA p) : p ≤ 18 := by rcases h with rfl | rfl <;> omega
theorem CPl_fr {Q : Nat → Nat → Prop} {s s' : sg} {p : Nat} {P : pln} {n D mv : Nat} (h : CPl s p P n D mv) (hn : n ≤ 8) (f : Fr Q s s') (hq : ∀ x j, p ≤ x → x ≤ p + 15 → (x = p → j ≤ 3) → ¬ Q x j) : CPl s' p P n D mv := by
  obtain ⟨h1, h2, h3, h4⟩ := h
  refine ⟨?_, ?_, ?_, fun k hk => ?_⟩
  · rw [f.1 _ _ (hq p 0 (by omega) (by omega) (by omega)), h1]
  · rw [f.1 _ _ (hq p 1 (by omega) (by omega) (by omega)), h2]
  · rw [f.1 _ _ (hq p 3 (by omega) (by omega) (by omega)), h3]
  · have e : ∀ j, s'.1 (p + 1 + 7 + k) j = s.1 (p + 1 + 7 + k) j := fun j => f.1 _ _ (hq _ j (by omega) (by omega) (by omega))
    obtain ⟨g1, g2, g3, g4, g5, g6⟩ := h4 k hk
    exact ⟨(e _).trans g1, (e _).trans g2, (e _).trans g3, (e _).trans g4, (e _).trans g5, (e _).trans g6⟩
def stA (a : Nat) : Prop := a = 38 ∨ a = 377 ∨ a = 387
theorem stA_O {a : Nat} (h : stA a) : stO a := by
  rcases h with rfl | rfl | rfl <;> exact ⟨rfl, rfl, rfl, rfl, rfl, rfl⟩
theorem stA_le {a : Nat} (h : stA a) : 38 ≤ a ∧ a ≤ 387 := by rcases h with rfl | rfl | rfl <;> omega
theorem oo_416 : ooO 416 := ⟨rfl, rfl, rfl, rfl, rfl⟩
theorem rf_6_6 (s : sg) (a : Nat) : rf s 6 a 6 = s.2.1 a 6 := rfl
theorem rf_6_7 (s : sg) (a : Nat) : rf s 6 a 7 = s.2.1 a 7 := rfl
theorem im_6_6 (a : Nat) : imK 6 a 6 = none := rfl
theorem im_6_7 (a : Nat) : imK 6 a 7 = none := rfl
def seD (x _j : Nat) : Prop := 394 ≤ x ∧ x ≤ 418
def SvP (s : sg) (p a E : Nat) (K : Nat → Bool) : Prop := s.2.1 394 6 = p ∧ s.2.1 394 7 = a ∧ s.1 394 8 = nI E ∧ OLk s 416 p a E K
theorem SvP_fr {Q : Nat → Nat → Prop} {s s' : sg} {p a E : Nat} {K : Nat → Bool} (h : SvP s p a E K) (f : Fr Q s s') (h1 : ∀ j, 6 ≤ j → ¬ Q 394 j) (h2 : ∀ x j, 416 ≤ x → x ≤ 418 → ¬ Q x j) : SvP s' p a E K :=
  ⟨(f.2.1 _ _ (h1 _ (by omega))).trans h.1, (f.2.1 _ _ (h1 _ (by omega))).trans h.2.1, (f.1 _ _ (h1 _ (by omega))).trans h.2.2.1, OLk_fr h.2.2.2 f (fun x j q1 q2 => h2 x j q1 (by omega))⟩
def fcv (P : pln) (st : Nat → Int32) (K : Nat → Bool) (E k m : Nat) : Int32 := if bhk P st K E k m = 100000 then 1000000 else nI (bhk P st K E k m - ln P k)
def FcR (s : sg) (P : pln) (st : Nat → Int32) (K : Nat → Bool) (E n : Nat) : Prop := ∀ k, k < n → ∀ m, m ≤ E → s.1 (397 + k) m = fcv P st K E k m
theorem r397 : ∀ k, k < 8 → kc (397 + k) = 20 ∧ kn (397 + k) = 481 := by decide
theorem r406 : ∀ k, k < 8 → kc (406 + k) = 20 ∧ kn (406 + k) = 481 := by decide
section CS
variable {N : Nat} {s : sg} {K : Nat → Bool} {st : Nat → Int32} {P : pln} {p a n D mv E H k m w : Nat}
theorem bhk_step (hm : m < E) : bhk P st K E k m = if sCan P st K E k m (ln P k) = true then m + ln P k else bhk P st K E k (m + 1) := by
  unfold bhk
  obtain ⟨g, hg⟩ : ∃ g, E - m = g + 1 := ⟨E - m - 1, by omega⟩
  rw [hg, bhd_s, show E - (m + 1) = g by omega]
theorem bhk_end (hm : E ≤ m) : bhk P st K E k m = 100000 := by
  unfold bhk
  rw [show E - m = 0 by omega]
  rfl
theorem c_ffc33 (W : Wp P n D mv) (hk : k < n) (hE : E ≤ 480) (hp : plA p) (ha : stA a) (hz : bz st) : ∀ (f i : Nat) (s : sg), i < f → i ≤ E → CPl s p P n D mv → SAt s a st K → SvP s p a E K → (∀ m, i ≤ m → m ≤ E → s.1 (397 + k) m = fcv P st K E k m) → ∃ s', lX6_findFirstChances_33 N f 394 (397 + k) (p + 1 + 7 + k) (nI i - 1) (mk s) = some (.inl (), mk s') ∧ (∀ m, m ≤ E → s'.1 (397 + k) m = fcv P st K E k m) ∧ Fr (fun x _ => x = 397 + k) s s' := by
  have hn8 := W.1
  have hw := W.2.2.2.2.2.2.2 k hk
  have hq := (plA_O hp).2.2.2.1 k (by omega)
  have hr := r397 k (by omega)
  have hp2 := plA_le hp
  have ha2 := stA_le ha
  intro f
  induction f with
  | zero => intro i s hf; omega
  | succ f ih =>
    intro i s hf hi hP hs hS hR
    show ∃ s', bX6_findFirstChances_33 N (lX6_findFirstChances_33 N f) 394 (397 + k) (p + 1 + 7 + k) (nI i - 1) (mk s) = _ ∧ _
    unfold bX6_findFirstChances_33
    cases i with
    | zero => exact ⟨s, if_pos (by decide), fun m hm => hR m (by omega) hm, Fr_r _ _⟩
    | succ g =>
      rw [nI_pred, if_neg (nI_pos (by omega))]
      have i1 : inB (nI g) 481 = true := inA_nI (by omega) (by omega)
      have i2 : inB (nI (g + 1)) 481 = true := inA_nI (by omega) (by omega)
      have em : nI g + -1 = nI g - 1 := by rw [Int32.sub_eq_add_neg]
      have cw := c_would (N := N) (k := k) oo_416 (stA_O ha) hS.2.2.2 hs hz hq (hP.2.2.2 k hk) hw.1 hw.2.1 (show g < E by omega) hE
      have key : ∀ x : Int32, x = fcv P st K E k g → ∃ s', bX6_findFirstChances_65 N (lX6_findFirstChances_33 N f) 394 (397 + k) (p + 1 + 7 + k) (nI g) (397 + k) (nI g) x (mk s) = some (.inl (), mk s') ∧ (∀ m, m ≤ E → s'.1 (397 + k) m = fcv P st K E k m) ∧ Fr (fun x _ => x = 397 + k) s s' := by
        intro x hx
        subst hx
        unfold bX6_findFirstChances_65
        simp (decide := true) only [Option.bind_some, cS_inl, cS_inr, gI_k, gR_k, pI_k, pR_k, cV_k, aI_k, tI_k, rZ_0, rZ_1, rZ_i, aR_24, aR_27, rf_3_6, rf_6_4, rf_6_9, rf_6_10, rf_6_11, rf_6_12, rf_6_5, rf_6_6, rf_6_7, Nat.reduceAdd, kc_394, kc_395, kc_396, kc_397, kc_398, kc_399, kc_400, kc_401, kc_402, kc_403, kc_404, kc_405, kc_406, kc_407, kc_408, kc_409, kc_410, kc_411, kc_412, kc_413, kc_414, kc_415, kc_416, kc_417, kc_418, kn_395, kn_396, kn_397, kn_398, kn_399, kn_400, kn_401, kn_402, kn_403, kn_404, kn_405, kn_406, kn_407, kn_408, kn_409, kn_410, kn_411, kn_412, kn_413, kn_414, kn_415, kn_417, kn_418, hr.1, hr.2, i1, nI_clamp (show g < 2 ^ 31 by omega), em]
        have f1 : Fr (fun x _ => x = 397 + k) s (sI s (397 + k) g (fcv P st K E k g)) := Fr_sI rfl
        obtain ⟨s', b1, b2, b3⟩ := ih g (sI s (397 + k) g (fcv P st K E k g)) (by omega) (by omega) (CPl_fr hP hn8 f1 (by intros; omega)) (SAt_fr hs f1 (by intros; omega)) (SvP_fr hS f1 (by intros; omega) (by intros; omega)) (fun m h1 h2 => by
          rw [sI_1]
          by_cases e : m = g
          · rw [if_pos ⟨rfl, e⟩, e]
          · rw [if_neg (fun q => e q.2)]; exact hR m (by omega) h2)
        exact ⟨s', b1, b2, Fr_t f1 b3⟩
      simp (decide := true) only [Option.bind_some, cS_inl, cS_inr, gI_k, gR_k, pI_k, pR_k, cV_k, aI_k, tI_k, rZ_0, rZ_1, rZ_i, aR_24, aR_27, rf_3_6, rf_6_4, rf_6_9, rf_6_10, rf_6_11, rf_6_12, rf_6_5, rf_6_6, rf_6_7, Nat.reduceAdd, kc_394, kc_395, kc_396, kc_397, kc_398, kc_399, kc_400, kc_401, kc_402, kc_403, kc_404, kc_405, kc_406, kc_407, kc_408, kc_409, kc_410, kc_411, kc_412, kc_413, kc_414, kc_415, kc_416, kc_417, kc_418, kn_395, kn_396, kn_397, kn_398, kn_399, kn_400, kn_401, kn_402, kn_403, kn_404, kn_405, kn_406, kn_407, kn_408, kn_409, kn_410, kn_411, kn_412, kn_413, kn_414, kn_415, kn_417, kn_418, cw, nI_1, hr.1, hr.2, i2, nI_clamp (show g + 1 < 2 ^ 31 by omega), sk_0]
      have hb := bhk_step (P := P) (st := st) (K := K) (k := k) (show g < E by omega)
      have hl := hw.2.1.2
      cases hc : sCan P st K E k g (ln P k)
      · rw [if_pos rfl]
        rw [hc] at hb
        refine key _ ?_
        rw [hR (g + 1) (by omega) (by omega)]
        unfold fcv
        rw [hb]
        simp
      · rw [if_neg (by decide)]
        rw [hc] at hb
        refine key _ ?_
        unfold fcv
        rw [hb]
        simp only [if_true]
        rw [if_neg (by omega)]
        congr 1
        omega
theorem c_ffc (hN : 1000 ≤ N) (W : Wp P n D mv) (hk : k < n) (hE : E ≤ 480) (hp : plA p) (ha : stA a) (hz : bz st) (hP : CPl s p P n D mv) (hs : SAt s a st K) (hS : SvP s p a E K) : ∃ s', fX6_findFirstChances N 394 (nI k) (mk s) = some (.inl (), mk s') ∧ (∀ m, m ≤ E → s'.1 (397 + k) m = fcv P st K E k m) ∧ Fr (fun x _ => x = 397 + k) s s' := by
  have hn8 := W.1
  have hr := r397 k (by omega)
  have hp2 := plA_le hp
  have ha2 := stA_le ha
  have hpO := plA_O hp
  have i1 : inB (nI k) 8 = true := inA_nI (by omega) (by omega)
  have i2 : inB (nI E) 481 = true := inA_nI (by omega) (by omega)
  unfold fX6_findFirstChances bX6_findFirstChances_0
  simp (decide := true) only [Option.bind_some, cS_inl, cS_inr, gI_k, gR_k, pI_k, pR_k, cV_k, aI_k, tI_k, rZ_0, rZ_1, rZ_i, aR_24, aR_27, rf_3_6, rf_6_4, rf_6_9, rf_6_10, rf_6_11, rf_6_12, rf_6_5, rf_6_6, rf_6_7, Nat.reduceAdd, kc_394, kc_395, kc_396, kc_397, kc_398, kc_399, kc_400, kc_401, kc_402, kc_403, kc_404, kc_405, kc_406, kc_407, kc_408, kc_409, kc_410, kc_411, kc_412, kc_413, kc_414, kc_415, kc_416, kc_417, kc_418, kn_395, kn_396, kn_397, kn_398, kn_399, kn_400, kn_401, kn_402, kn_403, kn_404, kn_405, kn_406, kn_407, kn_408, kn_409, kn_410, kn_411, kn_412, kn_413, kn_414, kn_415, kn_417, kn_418, hS.1, hS.2.2.1, hpO.1, hpO.2.1, hpO.2.2.1, i1, nI_clamp (show k < 2 ^ 31 by omega), hr.1, hr.2, i2, nI_clamp (show E < 2 ^ 31 by omega), sI_c, show ¬ (394 = 397 + k) by omega, false_and, if_false]
  have f1 : Fr (fun x _ => x = 397 + k) s (sI s (397 + k) E 1000000) := Fr_sI rfl
  obtain ⟨s', b1, b2, b3⟩ := c_ffc33 (N := N) W hk hE hp ha hz N E (sI s (397 + k) E 1000000) (by omega) (by omega) (CPl_fr hP hn8 f1 (by intros; omega)) (SAt_fr hs f1 (by intros; omega)) (SvP_fr hS f1 (by intros; omega) (by intros; omega)) (fun m h1 h2 => by
    have : m = E := by omega
    subst this
    rw [sI_1, if_pos ⟨rfl, rfl⟩]
    unfold fcv
    rw [bhk_end (by omega), if_pos rfl])
  exact ⟨s', b1, b2, Fr_t f1 b3⟩
theorem c_prep60 (hN : 1000 ≤ N) (W : Wp P n D mv) (hE : E ≤ 480) (hp : plA p) (ha : stA a) (hz : bz st) : ∀ (f i : Nat) (s : sg), n - i < f → i ≤ n → CPl s p P n D mv → SAt s a st K → SvP s p a E K → FcR s P st K E i → ∃ s', lX6_prepares_60 N f 394 p (nI i) (mk s) = some (.inl (), mk s') ∧ FcR s' P st K E n ∧ Fr (fun x _ => 397 ≤ x ∧ x ≤ 404) s s' := by
  have hn8 := W.1
  have hp2 := plA_le hp
  have ha2 := stA_le ha
  have hpO := plA_O hp
  intro f
  induction f with
  | zero => intro i s hf; omega
  | succ f ih =>
    intro i s hf hi hP hs hS hR
    show ∃ s', bX6_prepares_60 N (lX6_prepares_60 N f) 394 p (nI i) (mk s) = _ ∧ _
    unfold bX6_prepares_60
    simp (decide := true) only [Option.bind_some, cS_inl, cS_inr, gI_k, gR_k, pI_k, pR_k, cV_k, aI_k, tI_k, rZ_0, rZ_1, rZ_i, aR_24, aR_27, rf_3_6, rf_6_4, rf_6_9, rf_6_10, rf_6_11, rf_6_12, rf_6_5, rf_6_6, rf_6_7, Nat.reduceAdd, kc_394, kc_395, kc_396, kc_397, kc_398, kc_399, kc_400, kc_401, kc_402, kc_403, kc_404, kc_405, kc_406, kc_407, kc_408, kc_409, kc_410, kc_411, kc_412, kc_413, kc_414, kc_415, kc_416, kc_417, kc_418, kn_395, kn_396, kn_397, kn_398, kn_399, kn_400, kn_401, kn_402, kn_403, kn_404, kn_405, kn_406, kn_407, kn_408, kn_409, kn_410, kn_411, kn_412, kn_413, kn_414, kn_415, kn_417, kn_418, hpO.1, hP.2.2.1]
    by_cases c : n ≤ i
    · rw [if_pos (nI_le c (by omega))]
      exact ⟨s, rfl, fun k hk => hR k (by omega), Fr_r _ _⟩
    · rw [if_neg (nI_ge (by omega) (by omega))]
      obtain ⟨s1, a1, a2, a3⟩ := c_ffc (N := N) hN W (show i < n by omega) hE hp ha hz hP hs hS
      simp (decide := true) only [Option.bind_some, cS_inl, cS_inr, gI_k, gR_k, pI_k, pR_k, cV_k, aI_k, tI_k, rZ_0, rZ_1, rZ_i, aR_24, aR_27, rf_3_6, rf_6_4, rf_6_9, rf_6_10, rf_6_11, rf_6_12, rf_6_5, rf_6_6, rf_6_7, Nat.reduceAdd, kc_394, kc_395, kc_396, kc_397, kc_398, kc_399, kc_400, kc_401, kc_402, kc_403, kc_404, kc_405, kc_406, kc_407, kc_408, kc_409, kc_410, kc_411, kc_412, kc_413, kc_414, kc_415, kc_416, kc_417, kc_418, kn_395, kn_396, kn_397, kn_398, kn_399, kn_400, kn_401, kn_402, kn_403, kn_404, kn_405, kn_406, kn_407, kn_408, kn_409, kn_410, kn_411, kn_412, kn_413, kn_414, kn_415, kn_417, kn_418, a1, nI_1]
      have f1 : Fr (fun x _ => 397 ≤ x ∧ x ≤ 404) s s1 := Fr_m a3 (by intros; omega)
      obtain ⟨s', b1, b2, b3⟩ := ih (i + 1) s1 (by omega) (by omega) (CPl_fr hP hn8 f1 (by intros; omega)) (SAt_fr hs f1 (by intros; omega)) (SvP_fr hS f1 (by intros; omega) (by intros; omega)) (fun k hk m hm => by
        by_cases e : k = i
        · rw [e]; exact a2 m hm
        · rw [a3.1 _ _ (by omega)]; exact hR k (by omega) m hm)
      exact ⟨s', b1, b2, Fr_t f1 b3⟩
theorem c_prepares (hN : 1000 ≤ N) (W : Wp P n D mv) (hE : E ≤ 480) (hp : plA p) (ha : stA a) (hz : bz st) (hH : st 2 = nI H) (hP : CPl s p P n D mv) (hs : SAt s a st K) : ∃ s', fX6_prepares N 394 p a (nI E) (mk s) = some (.inl (), mk s') ∧ SvP s' p a E K ∧ s'.1 394 0 = nI (anN (2 ^ n - 1) H) ∧ FcR s' P st K E n ∧ Fr seD s s' := by
  have hn8 := W.1
  have hp2 := plA_le hp
  have ha2 := stA_le ha
  have hpO := plA_O hp
  have hp8 := pn8 hn8
  have e1 : mxI 0 (mnI (nI E) 480) = nI E := by
    rw [show (480 : Int32) = nI 480 from rfl, mn_nI (by omega) (by omega), show (0 : Int32) = nI 0 from rfl, mx_nI (by omega) (by omega)]
    congr 1
    omega
  have e2 : (1 : Int32) <<< (nI n &&& 31) - 1 = nI (2 ^ n - 1) := by
    rw [(shl_n n hn8).1, show (1 : Int32) = nI 1 from rfl, nI_sub (Nat.two_pow_pos n)]
  have e3 : s.1 a 2 = nI H := hs.2.2.1.trans hH
  unfold fX6_prepares bX6_prepares_0
  simp (decide := true) only [Option.bind_some, cS_inl, cS_inr, gI_k, gR_k, pI_k, pR_k, cV_k, aI_k, tI_k, rZ_0, rZ_1, rZ_i, aR_24, aR_27, rf_3_6, rf_6_4, rf_6_9, rf_6_10, rf_6_11, rf_6_12, rf_6_5, rf_6_6, rf_6_7, Nat.reduceAdd, kc_394, kc_395, kc_396, kc_397, kc_398, kc_399, kc_400, kc_401, kc_402, kc_403, kc_404, kc_405, kc_406, kc_407, kc_408, kc_409, kc_410, kc_411, kc_412, kc_413, kc_414, kc_415, kc_416, kc_417, kc_418, kn_395, kn_396, kn_397, kn_398, kn_399, kn_400, kn_401, kn_402, kn_403, kn_404, kn_405, kn_406, kn_407, kn_408, kn_409, kn_410, kn_411, kn_412, kn_413, kn_414, kn_415, kn_417, kn_418, im_6_6, im_6_7, e1, hpO.1, (stA_O ha).1, sI_c, sR_1, show ¬ (p = 394) by omega, show ¬ (a = 394) by omega, false_and, and_false, and_self, if_false, if_true, hP.2.2.1, e3, e2, anN_i (show 2 ^ n - 1 < 256 by omega)]
  have f0 : Fr seD s (sI (sI (sR (sR s 394 6 p) 394 7 a) 394 8 (nI E)) 394 0 (nI (anN (2 ^ n - 1) H))) := by
    have q : ∀ j, seD 394 j := fun j => ⟨by omega, by omega⟩
    exact Fr_t (Fr_t (Fr_t (Fr_sR (q 6)) (Fr_sR (q 7))) (Fr_sI (q 8))) (Fr_sI (q 0))
  have nq : ∀ x j, x < 394 → ¬ seD x j := fun x j h q => by unfold seD at q; omega
  have hs1 := SAt_fr hs f0 (fun x j h1 h2 => nq x j (by omega))
  obtain ⟨s1, a1, a2, a3⟩ := c_looks (N := N) (p := p) hN oo_416 (stA_O ha) (show a + 3 < 416 by omega) hE hs1.2.2.2.2.2.2.2.2
  rw [a1]
  simp (decide := true) only [Option.bind_some, cS_inl, cS_inr, gI_k, gR_k, pI_k, pR_k, cV_k, aI_k, tI_k, rZ_0, rZ_1, rZ_i, aR_24, aR_27, rf_3_6, rf_6_4, rf_6_9, rf_6_10, rf_6_11, rf_6_12, rf_6_5, rf_6_6, rf_6_7, Nat.reduceAdd, kc_394, kc_395, kc_396, kc_397, kc_398, kc_399, kc_400, kc_401, kc_402, kc_403, kc_404, kc_405, kc_406, kc_407, kc_408, kc_409, kc_410, kc_411, kc_412, kc_413, kc_414, kc_415, kc_416, kc_417, kc_418, kn_395, kn_396, kn_397, kn_398, kn_399, kn_400, kn_401, kn_402, kn_403, kn_404, kn_405, kn_406, kn_407, kn_408, kn_409, kn_410, kn_411, kn_412, kn_413, kn_414, kn_415, kn_417, kn_418]
  have f1 : Fr seD s s1 := Fr_t f0 (Fr_m a3 (fun x j q => by unfold oD at q; unfold seD; omega))
  have no : ∀ x j, x < 416 → ¬ oD 416 x j := fun x j h q => by unfold oD at q; omega
  have hS1 : SvP s1 p a E K := by
    refine ⟨?_, ?_, ?_, a2⟩
    · rw [a3.2.1 _ _ (no _ _ (by omega))]; simp [sI_r, sR_2]
    · rw [a3.2.1 _ _ (no _ _ (by omega))]; simp [sI_r, sR_2]
    · rw [a3.1 _ _ (no _ _ (by omega))]; simp [sI_c]
  obtain ⟨s2, b1, b2, b3⟩ := c_prep60 (N := N) hN W hE hp ha hz N 0 s1 (by omega) (by omega) (CPl_fr hP hn8 f1 (fun x j h1 h2 _ => nq x j (by omega))) (SAt_fr hs f1 (fun x j h1 h2 => nq x j (by omega))) hS1 (fun k hk => by omega)
  refine ⟨s2, b1, SvP_fr hS1 b3 (by intros; omega) (by intros; omega), ?_, b2, Fr_t f1 (Fr_m b3 (fun x j q => by unfold seD; omega))⟩
  rw [b3.1 _ _ (by omega), a3.1 _ _ (no _ _ (by omega))]
  simp [sI_c]
/-! the table of soonest ends -/
def rl1 (c t : Nat) : Prop := (t ≤ 480 ∧ c = t) ∨ (t = 100000 ∧ c = 1000000)
def rl2 (c t : Nat) : Prop := (t < 100000 ∧ c = t) ∨ (100000 ≤ t ∧ 1000000 ≤ c ∧ c ≤ 1000300)
theorem c_isFree (W : Wp P n D mv) (hp : plA p) (hP : CPl s p P n D mv) (h6 : s.2.1 394 6 = p) (hk : k < n) (X : Nat) : fX6_isFree N 394 (nI k) (nI X) (mk s) = some (.inl (sk_i (afb P k X)), mk s) := by
  have hn8 := W.1
  have hpO := plA_O hp
  have hq := hpO.2.2.2.1 k (by omega)
  have i1 : inB (nI k) 8 = true := inA_nI (by omega) (by omega)
  unfold fX6_isFree bX6_isFree_0 bX6_isFree_27
  simp (decide := true) only [Option.bind_some, cS_inl, cS_inr, gI_k, gR_k, pI_k, pR_k, cV_k, aI_k, tI_k, rZ_0, rZ_1, rZ_i, aR_24, aR_27, rf_3_6, rf_6_4, rf_6_9, rf_6_10, rf_6_11, rf_6_12, rf_6_5, rf_6_6, rf_6_7, Nat.reduceAdd, kc_394, kc_395, kc_396, kc_397, kc_398, kc_399, kc_400, kc_401, kc_402, kc_403, kc_404, kc_405, kc_406, kc_407, kc_408, kc_409, kc_410, kc_411, kc_412, kc_413, kc_414, kc_415, kc_416, kc_417, kc_418, kn_395, kn_396, kn_397, kn_398, kn_399, kn_400, kn_401, kn_402, kn_403, kn_404, kn_405, kn_406, kn_407, kn_408, kn_409, kn_410, kn_411, kn_412, kn_413, kn_414, kn_415, kn_417, kn_418, h6, hpO.1, hpO.2.1, hpO.2.2.1, i1, nI_clamp (show k < 2 ^ 31 by omega), hq, (hP.2.2.2 k hk).2.2.2.2.2]
  unfold afb
  rcases (W.2.2.2.2.2.2.2 k hk).2.2.2.2 with h3 | ⟨j, hj, h3⟩
  · simp [h3, sk_i]
  · have hne : ¬ nI j = -1 := fun q => by
      have := congrArg Int32.toInt q
      rw [nI_toInt (by omega)] at this
      have e : (-1 : Int32).toInt = -1 := by decide
      omega
    have hb2 : ((nI X >>> (nI j &&& 31)) &&& 1 = 1) ↔ X.testBit j = true := by rw [bit_of _ _ (by omega), bt_nI _ _ (by omega)]
    simp only [h3, hne, if_false, hb2, nI_clamp (show j < 2 ^ 31 by omega)]
    cases X.testBit j <;> simp [sk_i, hne]
theorem c_endFrom (W : Wp P n D mv) (hE : E ≤ 480) (hp : plA p) (hP : CPl s p P n D mv) (hS : SvP s p a E K) (hF : FcR s P st K E n) (hk : k < n) {c t : Nat} (hr : rl2 c t) (hc : c < 2 ^ 31) : ∃ e, fX6_endFrom N 394 (nI k) (nI c) (mk s) = some (.inl (nI e), mk s) ∧ rl1 e (bhk P st K E k t) := by
  have hn8 := W.1
  have hpO := plA_O hp
  have hq := hpO.2.2.2.1 k (by omega)
  have i1 : inB (nI k) 8 = true := inA_nI (by omega) (by omega)
  have hr7 := r397 k (by omega)
  have hw := W.2.2.2.2.2.2.2 k hk
  have hl := hw.2.1.2
  have h3 : s.1 (p + 1 + 7 + k) 2 = nI (ln P k) := (hP.2.2.2 k hk).2.2.1.trans hw.2.1.1
  unfold fX6_endFrom bX6_endFrom_0
  simp (decide := true) only [Option.bind_some, cS_inl, cS_inr, gI_k, gR_k, pI_k, pR_k, cV_k, aI_k, tI_k, rZ_0, rZ_1, rZ_i, aR_24, aR_27, rf_3_6, rf_6_4, rf_6_9, rf_6_10, rf_6_11, rf_6_12, rf_6_5, rf_6_6, rf_6_7, Nat.reduceAdd, kc_394, kc_395, kc_396, kc_397, kc_398, kc_399, kc_400, kc_401, kc_402, kc_403, kc_404, kc_405, kc_406, kc_407, kc_408, kc_409, kc_410, kc_411, kc_412, kc_413, kc_414, kc_415, kc_416, kc_417, kc_418, kn_395, kn_396, kn_397, kn_398, kn_399, kn_400, kn_401, kn_402, kn_403, kn_404, kn_405, kn_406, kn_407, kn_408, kn_409, kn_410, kn_411, kn_412, kn_413, kn_414, kn_415, kn_417, kn_418, hS.2.2.1]
  by_cases c1 : c ≤ E
  · have ht : t = c := by unfold rl2 at hr; omega
    subst ht
    have i2 : inB (nI t) 481 = true := inA_nI (by omega) (by omega)
    rw [if_pos (nI_le c1 (by omega))]
    simp (decide := true) only [Option.bind_some, cS_inl, cS_inr, gI_k, gR_k, pI_k, pR_k, cV_k, aI_k, tI_k, rZ_0, rZ_1, rZ_i, aR_24, aR_27, rf_3_6, rf_6_4, rf_6_9, rf_6_10, rf_6_11, rf_6_12, rf_6_5, rf_6_6, rf_6_7, Nat.reduceAdd, kc_394, kc_395, kc_396, kc_397, kc_398, kc_399, kc_400, kc_401, kc_402, kc_403, kc_404, kc_405, kc_406, kc_407, kc_408, kc_409, kc_410, kc_411, kc_412, kc_413, kc_414, kc_415, kc_416, kc_417, kc_418, kn_395, kn_396, kn_397, kn_398, kn_399, kn_400, kn_401, kn_402, kn_403, kn_404, kn_405, kn_406, kn_407, kn_408, kn_409, kn_410, kn_411, kn_412, kn_413, kn_414, kn_415, kn_417, kn_418, i1, nI_clamp (show k < 2 ^ 31 by omega), hr7.1, hr7.2, i2, nI_clamp (show t < 2 ^ 31 by omega), hF k hk t c1, hS.1, hpO.1, hpO.2.1, hpO.2.2.1, hq, h3]
    unfold fcv
    rcases (bhk_okB (st := st) (K := K) W hE 0 0 0).2.2.2.1 k t hk with q | q
    · have hlt := (bhk_okB (st := st) (K := K) W hE 0 0 0).2.2.2.2.2.1 k t hk q
      have hge : ln P k ≤ bhk P st K E k t := by
        rcases bhk_cases (st := st) (K := K) W hk hE t with ⟨u, h1, h2, h4, h5, h6⟩ | ⟨h1, h2⟩
        · omega
        · omega
      refine ⟨bhk P st K E k t, ?_, Or.inl ⟨by omega, rfl⟩⟩
      have hne : ¬ nI (bhk P st K E k t - ln P k) = (1000000 : Int32) := fun q => by
        have := (nI_eq (b := 1000000) (by omega) (by omega)).mp q
        omega
      rw [if_neg (show ¬ bhk P st K E k t = 100000 by omega), if_pos hne, nI_add]
      congr 3
      congr 1
      omega
    · refine ⟨1000000, ?_, Or.inr ⟨q, rfl⟩⟩
      rw [if_pos q, if_neg (fun h => h rfl)]
      rfl
  · rw [if_neg (nI_ge (by omega) hc)]
    refine ⟨1000000, rfl, Or.inr ⟨?_, rfl⟩⟩
    apply bhk_end
    unfold rl2 at hr
    omega
end CS
