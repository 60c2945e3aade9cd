/- needs: 42.small -/
/-! rules: what both sides reckon -/
def rck (g a b : Int32) : Int32 := if g = -26 then (if a = 0 then 0 else if b = 0 then 0 else 1) else if g = -25 then (if ¬ a = b then 0 else 1) else if g = -24 then (if b ≤ a then 0 else 1) else if g = -23 then (if ¬ b = 0 then a / b else 0) else if g = -22 then a * b else if g = -21 then a - b else if g = -20 then a + b else (if ¬ a = 0 then 1 else if b = 0 then 0 else 1)
theorem m_reckon (N : Nat) (g a b : Int32) (c : mm_C) : fX12_reckon N g a b c = some (.inl (rck g a b), c) := by
  have hd : ¬ b = 0 → dvI a b = some (a / b) := fun h => if_neg h
  unfold fX12_reckon bX12_reckon_0 bX12_reckon_112 rck
  by_cases c1 : g = -26
  · rw [if_pos c1, if_pos c1]
    by_cases d1 : a = 0
    · rw [if_pos d1, if_pos d1]
    · rw [if_neg d1, if_neg d1]; split <;> rfl
  · rw [if_neg c1, if_neg c1]
    by_cases c2 : g = -25
    · rw [if_pos c2, if_pos c2]; split <;> rfl
    · rw [if_neg c2, if_neg c2]
      by_cases c3 : g = -24
      · rw [if_pos c3, if_pos c3]; split <;> rfl
      · rw [if_neg c3, if_neg c3]
        by_cases c4 : g = -23
        · rw [if_pos c4, if_pos c4]
          by_cases c5 : b = 0
          · rw [if_neg (fun q => q c5), if_neg (fun q => q c5)]
          · rw [if_pos c5, if_pos c5, hd c5]; rfl
        · rw [if_neg c4, if_neg c4]
          by_cases c6 : g = -22
          · rw [if_pos c6, if_pos c6]
          · rw [if_neg c6, if_neg c6]
            by_cases c7 : g = -21
            · rw [if_pos c7, if_pos c7]
            · rw [if_neg c7, if_neg c7]
              by_cases c8 : g = -20
              · rw [if_pos c8, if_pos c8]
              · rw [if_neg c8, if_neg c8]
                by_cases c9 : a = 0
                · by_cases d2 : b = 0 <;> simp [c9, d2]
                · rw [if_pos c9, if_pos c9]
def trc (x : Int32) : Int32 := if -20 < x then x else if x = -20 then -16 else if x = -21 then -17 else if x = -22 then -18 else if x = -23 then -19 else if x = -24 then -14 else if x = -25 then -15 else if x = -26 then -12 else if x = -27 then -11 else -13
def opq (g : Int32) : Prop := g = -20 ∨ g = -21 ∨ g = -22 ∨ g = -23 ∨ g = -24 ∨ g = -25 ∨ g = -26 ∨ g = -27
theorem c_joined (N : Nat) {g : Int32} (hg : opq g) (a b : Int32) (c : mm_C) : fX4_joined N (trc g) a b c = some (.inl (rck g a b), c) := by
  have hd : ¬ b = 0 → dvI a b = some (a / b) := fun h => if_neg h
  rcases hg with rfl | rfl | rfl | rfl | rfl | rfl | rfl | rfl
  · show fX4_joined N (-16) a b c = some (.inl (a + b), c); rfl
  · show fX4_joined N (-17) a b c = some (.inl (a - b), c); rfl
  · show fX4_joined N (-18) a b c = some (.inl (a * b), c); rfl
  · show fX4_joined N (-19) a b c = some (.inl (if ¬ b = 0 then a / b else 0), c)
    show bX4_joined_110 N a b c = _
    unfold bX4_joined_110
    by_cases c5 : b = 0
    · rw [if_neg (fun q => q c5), if_neg (fun q => q c5)]
    · rw [if_pos c5, if_pos c5, hd c5]; rfl
  · show (if b ≤ a then some (Sum.inl (0 : Int32), c) else some (Sum.inl (1 : Int32), c)) = some (.inl (if b ≤ a then 0 else 1), c)
    split <;> rfl
  · show (if ¬ a = b then some (Sum.inl (0 : Int32), c) else some (Sum.inl (1 : Int32), c)) = some (.inl (if ¬ a = b then 0 else 1), c)
    split <;> rfl
  · show (if a = 0 then some (Sum.inl (0 : Int32), c) else (if b = 0 then some (Sum.inl (0 : Int32), c) else some (Sum.inl (1 : Int32), c))) = some (.inl (if a = 0 then 0 else if b = 0 then 0 else 1), c)
    by_cases c1 : a = 0
    · rw [if_pos c1, if_pos c1]
    · rw [if_neg c1, if_neg c1]; split <;> rfl
  · show (if ¬ a = 0 then bX4_joined_56 N c else (if b = 0 then some (Sum.inl (0 : Int32), c) else bX4_joined_56 N c)) = some (.inl (if ¬ a = 0 then 1 else if b = 0 then 0 else 1), c)
    unfold bX4_joined_56
    by_cases c1 : a = 0
    · by_cases c2 : b = 0 <;> simp [c1, c2]
    · rw [if_pos c1, if_pos c1]
/-- a rule's steps from i on, h numbers being on the heap of numbers: they can be reckoned -/
def wfc (q : Nat → Int32) : Nat → Nat → Nat → Prop
  | 0, _, h => h = 1
  | f + 1, i, h => (-20 < q i ∧ -9 < q i ∧ h < 40 ∧ wfc q f (i + 1) (h + 1)) ∨ (q i = -28 ∧ 1 ≤ h ∧ wfc q f (i + 1) h) ∨ (opq (q i) ∧ 2 ≤ h ∧ wfc q f (i + 1) (h - 1))
def up1 (S : Nat → Int32) (j : Nat) (x : Int32) : Nat → Int32 := fun i => if i = j then x else S i
def evq (q v : Nat → Int32) : Nat → Nat → Nat → (Nat → Int32) → Int32
  | 0, _, _, S => S 0
  | f + 1, i, h, S => if -20 < q i then evq q v f (i + 1) (h + 1) (up1 S h (if q i < 0 then v (-1 - q i).toNatClampNeg else q i)) else if q i = -28 then evq q v f (i + 1) h (up1 S (h - 1) (if S (h - 1) = 0 then 1 else 0)) else evq q v f (i + 1) (h - 1) (up1 S (h - 2) (rck (q i) (S (h - 2)) (S (h - 1))))
theorem evq_s (q v : Nat → Int32) (f i h : Nat) (S : Nat → Int32) : evq q v (f + 1) i h S = if -20 < q i then evq q v f (i + 1) (h + 1) (up1 S h (if q i < 0 then v (-1 - q i).toNatClampNeg else q i)) else if q i = -28 then evq q v f (i + 1) h (up1 S (h - 1) (if S (h - 1) = 0 then 1 else 0)) else evq q v f (i + 1) (h - 1) (up1 S (h - 2) (rck (q i) (S (h - 2)) (S (h - 1)))) := rfl
theorem val_ix {x : Int32} (h1 : -9 < x) (h2 : x < 0) : ∃ j, j < 8 ∧ (-1 : Int32) - x = nI j := by
  have e9 : (-9 : Int32).toInt = -9 := by decide
  have e0 : (0 : Int32).toInt = 0 := by decide
  rw [i32_lt, e9] at h1
  rw [i32_lt, e0] at h2
  have hx : x = -1 ∨ x = -2 ∨ x = -3 ∨ x = -4 ∨ x = -5 ∨ x = -6 ∨ x = -7 ∨ x = -8 := by
    have hc : x.toInt = -1 ∨ x.toInt = -2 ∨ x.toInt = -3 ∨ x.toInt = -4 ∨ x.toInt = -5 ∨ x.toInt = -6 ∨ x.toInt = -7 ∨ x.toInt = -8 := by omega
    rcases hc with h | h | h | h | h | h | h | h
    · left; exact Int32.toInt_inj.mp h
    · right; left; exact Int32.toInt_inj.mp h
    · right; right; left; exact Int32.toInt_inj.mp h
    · right; right; right; left; exact Int32.toInt_inj.mp h
    · right; right; right; right; left; exact Int32.toInt_inj.mp h
    · right; right; right; right; right; left; exact Int32.toInt_inj.mp h
    · right; right; right; right; right; right; left; exact Int32.toInt_inj.mp h
    · right; right; right; right; right; right; right; exact Int32.toInt_inj.mp h
  rcases hx with rfl | rfl | rfl | rfl | rfl | rfl | rfl | rfl
  · exact ⟨0, by omega, by decide⟩
  · exact ⟨1, by omega, by decide⟩
  · exact ⟨2, by omega, by decide⟩
  · exact ⟨3, by omega, by decide⟩
  · exact ⟨4, by omega, by decide⟩
  · exact ⟨5, by omega, by decide⟩
  · exact ⟨6, by omega, by decide⟩
  · exact ⟨7, by omega, by decide⟩
def rO (r : Nat) : Prop := kc r = 4 ∧ kc (r + 1) = 20 ∧ kn (r + 1) = 700 ∧ kc (r + 2) = 20 ∧ kn (r + 2) = 4 ∧ kc (r + 3) = 20 ∧ kn (r + 3) = 40
theorem plA_r {p : Nat} (h : plA p) : rO (p + 4) := by
  rcases h with rfl | rfl <;> exact ⟨rfl, rfl, rfl, rfl, rfl, rfl, rfl⟩
theorem opq_n {g : Int32} (h : opq g) : ¬ -20 < g ∧ ¬ g = -28 ∧ trc g < 0 ∧ trc g ≤ -11 ∧ ¬ trc g = -13 := by
  rcases h with rfl | rfl | rfl | rfl | rfl | rfl | rfl | rfl <;> decide
section RL
variable {N : Nat} {s : sg} {q v : Nat → Int32} {r e : Nat}
theorem c_push {h : Nat} {x : Int32} (hr : rO r) (hh : s.1 r 5 = nI h) (h40 : h < 40) : fX4_pushes N r x (mk s) = some (.inl (), mk (sI (sI s (r + 3) h x) r 5 (nI (h + 1)))) := by
  obtain ⟨r1, r2, r3, r4, r5, r6, r7⟩ := hr
  have i1 : inB (nI h) 40 = true := inA_nI h40 (by omega)
  unfold fX4_pushes bX4_pushes_0
  simp (decide := true) only [ob_s, cS_l, cS_r, gI_k, gR_k, pI_k, pR_k, cV_k, aI_k, tI_k, rZ_0, rZ_1, rZ_i, rf_4_4, r1, hh]
  rw [if_neg (show ¬ (40 : Int32) ≤ nI h from nI_ge (b := 40) h40 (by omega))]
  simp (decide := true) only [ob_s, cS_l, cS_r, gI_k, gR_k, pI_k, pR_k, cV_k, aI_k, tI_k, rZ_0, rZ_1, rZ_i, rf_4_4, r1, r6, r7, hh, i1, nI_clamp (show h < 2 ^ 31 by omega), sI_c, show ¬ r = r + 3 by omega, false_and, if_false, nI_1]
theorem c_pop {h : Nat} (hr : rO r) (hh : s.1 r 5 = nI (h + 1)) (h40 : h < 40) : fX4_pops N r (mk s) = some (.inl (s.1 (r + 3) h), mk (sI s r 5 (nI h))) := by
  obtain ⟨r1, r2, r3, r4, r5, r6, r7⟩ := hr
  have i1 : inB (nI h) 40 = true := inA_nI h40 (by omega)
  unfold fX4_pops bX4_pops_0
  simp (decide := true) only [ob_s, cS_l, cS_r, gI_k, gR_k, pI_k, pR_k, cV_k, aI_k, tI_k, rZ_0, rZ_1, rZ_i, rf_4_4, r1, hh]
  rw [if_pos (nI_ne0 (by omega) (by omega))]
  simp (decide := true) only [ob_s, cS_l, cS_r, gI_k, gR_k, pI_k, pR_k, cV_k, aI_k, tI_k, rZ_0, rZ_1, rZ_i, rf_4_4, r1, r6, r7, nI_pred, sI_c, and_self, if_true, i1, nI_clamp (show h < 2 ^ 31 by omega), show ¬ r + 3 = r by omega, false_and, if_false]
theorem c_giv44 (hr : rO r) (hr2 : r ≤ 22) (he : e ≤ 700) : ∀ (f i h : Nat) (S : Nat → Int32) (s : sg), e - i < f → i ≤ e → wfc q (e - i) i h → h ≤ 40 → s.1 r 5 = nI h → (∀ j, j < h → s.1 (r + 3) j = S j) → (∀ j, j < e → s.1 (r + 1) j = trc (q j)) → (∀ j, j < 8 → s.1 386 j = v j) → ∃ s', lX4_gives_44 N f r 386 (nI e) (nI i) (mk s) = some (.inl (evq q v (e - i) i h S), mk s') ∧ Fr (fun x j => x = r + 3 ∨ (x = r ∧ j = 5)) s s' := by
  have hr' := hr
  obtain ⟨r1, r2, r3, r4, r5, r6, r7⟩ := hr
  intro f
  induction f with
  | zero => intro i h S s hf; omega
  | succ f ih =>
    intro i h S s hf hi hw h40 hh hS hc hv
    show ∃ s', bX4_gives_44 N (lX4_gives_44 N f) r 386 (nI e) (nI i) (mk s) = _ ∧ _
    unfold bX4_gives_44
    by_cases c1 : e ≤ i
    · rw [if_pos (nI_le c1 (by omega))]
      rw [show e - i = 0 by omega] at hw ⊢
      have hw1 : h = 1 := hw
      subst hw1
      refine ⟨sI s r 5 (nI 0), ?_, Fr_sI (Or.inr ⟨rfl, rfl⟩)⟩
      unfold bX4_gives_165
      have := c_pop (N := N) (h := 0) hr' hh (by omega)
      simp (decide := true) only [ob_s, cS_l, cS_r, gI_k, gR_k, pI_k, pR_k, cV_k, aI_k, tI_k, rZ_0, rZ_1, rZ_i, r1, this, hS 0 (by omega)]
      rfl
    · rw [if_neg (nI_ge (by omega) (by omega))]
      obtain ⟨g, hg, hg2⟩ := sub1 (show i < e by omega)
      rw [hg] at hw ⊢
      have i1 : inB (nI i) 700 = true := inA_nI (by omega) (by omega)
      simp (decide := true) only [ob_s, cS_l, cS_r, gI_k, gR_k, pI_k, pR_k, cV_k, aI_k, tI_k, rZ_0, rZ_1, rZ_i, rf_4_1, r1, r2, r3, i1, nI_clamp (show i < 2 ^ 31 by omega), hc i (by omega)]
      rw [evq_s]
      rcases hw with ⟨w1, w2, w3, w4⟩ | ⟨w1, w2, w4⟩ | ⟨w1, w2, w4⟩
      · -- a number or a value
        have et : trc (q i) = q i := if_pos w1
        rw [et, if_pos w1]
        have nxt : ∀ x : Int32, x = (if q i < 0 then v (-1 - q i).toNatClampNeg else q i) → ∃ s', (cS (fX4_pushes N r x (mk s)) fun (_ : Unit) c9 => bX4_gives_159 N (lX4_gives_44 N f) r 386 (nI e) (nI i) c9) = some (.inl (evq q v g (i + 1) (h + 1) (up1 S h (if q i < 0 then v (-1 - q i).toNatClampNeg else q i))), mk s') ∧ Fr (fun x j => x = r + 3 ∨ (x = r ∧ j = 5)) s s' := by
          intro x hx
          rw [c_push hr' hh w3, cS_l]
          unfold bX4_gives_159
          rw [nI_1, ← hx]
          have f1 : Fr (fun x j => x = r + 3 ∨ (x = r ∧ j = 5)) s (sI (sI s (r + 3) h x) r 5 (nI (h + 1))) := Fr_t (Fr_sI (Or.inl rfl)) (Fr_sI (Or.inr ⟨rfl, rfl⟩))
          obtain ⟨s', b1, b2⟩ := ih (i + 1) (h + 1) (up1 S h x) (sI (sI s (r + 3) h x) r 5 (nI (h + 1))) (by omega) (by omega) (by rw [hg2]; exact w4) (by omega) (by simp [sI_c]) (fun j hj => by
            rw [sI_1, if_neg (by omega), sI_1]
            unfold up1
            by_cases c : j = h
            · rw [if_pos ⟨rfl, c⟩, if_pos c]
            · rw [if_neg (fun q => c q.2), if_neg c]; exact hS j (by omega)) (fun j hj => by rw [f1.1 _ _ (by omega)]; exact hc j hj) (fun j hj => by rw [f1.1 _ _ (by omega)]; exact hv j hj)
          rw [hg2] at b1
          exact ⟨s', b1, Fr_t f1 b2⟩
        by_cases c2 : q i < 0
        · rw [if_pos c2]
          have n11 : ¬ q i ≤ -11 := by
            rw [i32_le]
            rw [i32_lt] at w2
            have e9 : (-9 : Int32).toInt = -9 := by decide
            have e11 : (-11 : Int32).toInt = -11 := by decide
            omega
          rw [if_neg n11]
          obtain ⟨j, hj, ej⟩ := val_ix w2 c2
          have ij : inB (nI j) 8 = true := inA_nI hj (by omega)
          rw [ej, if_neg (show ¬ (8 : Int32) ≤ nI j from nI_ge (b := 8) hj (by omega))]
          unfold bX4_gives_102
          simp (decide := true) only [ob_s, cS_l, cS_r, gI_k, gR_k, pI_k, pR_k, cV_k, aI_k, tI_k, rZ_0, rZ_1, rZ_i, kc_386, kn_386, ij, nI_clamp (show j < 2 ^ 31 by omega), r1, hv j hj]
          have := nxt (v j) (by rw [if_pos c2, ej, nI_clamp (by omega)])
          rw [ej, nI_clamp (by omega)] at this
          exact this
        · rw [if_neg c2]
          exact nxt (q i) (by rw [if_neg c2])
      · -- not
        obtain ⟨h', rfl⟩ : ∃ h', h = h' + 1 := ⟨h - 1, by omega⟩
        have et : trc (q i) = -13 := by rw [w1]; decide
        have n20 : ¬ -20 < q i := by rw [w1]; decide
        rw [et, if_neg n20, if_pos w1, if_pos (by decide), if_pos (by decide), if_neg (fun q => q rfl)]
        have hp := c_pop (N := N) hr' hh (by omega)
        simp (decide := true) only [ob_s, cS_l, cS_r, gI_k, gR_k, pI_k, pR_k, cV_k, aI_k, tI_k, rZ_0, rZ_1, rZ_i, r1, hp]
        rw [hS h' (by omega)]
        have f0 : Fr (fun x j => x = r + 3 ∨ (x = r ∧ j = 5)) s (sI s r 5 (nI h')) := Fr_sI (Or.inr ⟨rfl, rfl⟩)
        have hh' : (sI s r 5 (nI h')).1 r 5 = nI h' := by simp [sI_c]
        have nxt : ∀ x : Int32, x = (if S h' = 0 then 1 else 0) → ∃ s', bX4_gives_128 N (lX4_gives_44 N f) r 386 (nI e) (nI i) r x (mk (sI s r 5 (nI h'))) = some (.inl (evq q v g (i + 1) (h' + 1) (up1 S (h' + 1 - 1) (if S (h' + 1 - 1) = 0 then 1 else 0))), mk s') ∧ Fr (fun x j => x = r + 3 ∨ (x = r ∧ j = 5)) s s' := by
          intro x hx
          unfold bX4_gives_128 bX4_gives_159
          simp (decide := true) only [ob_s, cS_l, cS_r, gI_k, gR_k, pI_k, pR_k, cV_k, aI_k, tI_k, rZ_0, rZ_1, rZ_i, r1, c_push hr' hh' (show h' < 40 by omega), nI_1]
          have f1 : Fr (fun x j => x = r + 3 ∨ (x = r ∧ j = 5)) s (sI (sI (sI s r 5 (nI h')) (r + 3) h' x) r 5 (nI (h' + 1))) := Fr_t (Fr_t f0 (Fr_sI (Or.inl rfl))) (Fr_sI (Or.inr ⟨rfl, rfl⟩))
          rw [show h' + 1 - 1 = h' by omega, ← hx]
          obtain ⟨s', b1, b2⟩ := ih (i + 1) (h' + 1) (up1 S h' x) (sI (sI (sI s r 5 (nI h')) (r + 3) h' x) r 5 (nI (h' + 1))) (by omega) (by omega) (by rw [hg2]; exact w4) (by omega) (by simp [sI_c]) (fun j hj => by
            rw [sI_1, if_neg (by omega), sI_1]
            unfold up1
            by_cases c : j = h'
            · rw [if_pos ⟨rfl, c⟩, if_pos c]
            · rw [if_neg (fun q => c q.2), if_neg c, sI_1, if_neg (by omega)]; exact hS j (by omega)) (fun j hj => by rw [f1.1 _ _ (by omega)]; exact hc j hj) (fun j hj => by rw [f1.1 _ _ (by omega)]; exact hv j hj)
          rw [hg2] at b1
          exact ⟨s', b1, Fr_t f1 b2⟩
        by_cases c3 : S h' = 0
        · rw [if_neg (fun q => q c3)]
          exact nxt 1 (by rw [if_pos c3])
        · rw [if_pos c3]
          exact nxt 0 (by rw [if_neg c3])
      · -- two are joined
        obtain ⟨h', rfl⟩ : ∃ h', h = h' + 1 + 1 := ⟨h - 2, by omega⟩
        obtain ⟨o1, o2, o3, o4, o5⟩ := opq_n w1
        rw [if_neg o1, if_neg o2, if_pos o3, if_pos o4, if_pos o5]
        have hp := c_pop (N := N) hr' hh (by omega)
        have hh1 : (sI s r 5 (nI (h' + 1))).1 r 5 = nI (h' + 1) := by simp [sI_c]
        have hp1 := c_pop (N := N) hr' hh1 (by omega)
        have f0 : Fr (fun x j => x = r + 3 ∨ (x = r ∧ j = 5)) s (sI (sI s r 5 (nI (h' + 1))) r 5 (nI h')) := Fr_t (Fr_sI (Or.inr ⟨rfl, rfl⟩)) (Fr_sI (Or.inr ⟨rfl, rfl⟩))
        have hh2 : (sI (sI s r 5 (nI (h' + 1))) r 5 (nI h')).1 r 5 = nI h' := by simp [sI_c]
        have e3 : (sI s r 5 (nI (h' + 1))).1 (r + 3) h' = S h' := by rw [sI_1, if_neg (by omega)]; exact hS h' (by omega)
        simp (decide := true) only [ob_s, cS_l, cS_r, gI_k, gR_k, pI_k, pR_k, cV_k, aI_k, tI_k, rZ_0, rZ_1, rZ_i, r1, hp, hp1, hS (h' + 1) (by omega), e3, c_joined N w1, c_push hr' hh2 (show h' < 40 by omega)]
        unfold bX4_gives_159
        rw [nI_1, show h' + 1 + 1 - 1 = h' + 1 by omega, show h' + 1 + 1 - 2 = h' by omega]
        have f1 : Fr (fun x j => x = r + 3 ∨ (x = r ∧ j = 5)) s (sI (sI (sI (sI s r 5 (nI (h' + 1))) r 5 (nI h')) (r + 3) h' (rck (q i) (S h') (S (h' + 1)))) r 5 (nI (h' + 1))) := Fr_t (Fr_t f0 (Fr_sI (Or.inl rfl))) (Fr_sI (Or.inr ⟨rfl, rfl⟩))
        obtain ⟨s', b1, b2⟩ := ih (i + 1) (h' + 1) (up1 S h' (rck (q i) (S h') (S (h' + 1)))) _ (by omega) (by omega) (by rw [hg2]; exact w4) (by omega) (show (sI (sI (sI (sI s r 5 (nI (h' + 1))) r 5 (nI h')) (r + 3) h' (rck (q i) (S h') (S (h' + 1)))) r 5 (nI (h' + 1))).1 r 5 = nI (h' + 1) by simp [sI_c]) (fun j hj => by
          rw [sI_1, if_neg (by omega), sI_1]
          unfold up1
          by_cases c : j = h'
          · rw [if_pos ⟨rfl, c⟩, if_pos c]
          · rw [if_neg (fun q => c q.2), if_neg c, sI_1, if_neg (by omega), sI_1, if_neg (by omega)]; exact hS j (by omega)) (fun j hj => by rw [f1.1 _ _ (by omega)]; exact hc j hj) (fun j hj => by rw [f1.1 _ _ (by omega)]; exact hv j hj)
        rw [hg2] at b1
        exact ⟨s', b1, Fr_t f1 b2⟩
theorem m_val9 {rr : Nat} (hrr : rr < 8) (he : e ≤ 700) : ∀ (f i h : Nat) (S : Nat → Int32) (s : sg), e - i < f → i ≤ e → wfc q (e - i) i h → h ≤ 40 → s.1 431 rr = nI e → (∀ j, j < h → s.1 438 j = S j) → (∀ j, j < e → s.1 432 j = q j) → (∀ j, j < 8 → s.1 437 j = v j) → ∃ s', lX12_valueBy_9 N f 419 (nI rr) (nI h) (nI i) (mk s) = some (.inl (evq q v (e - i) i h S), mk s') ∧ Fr (fun x _ => x = 438) s s' := by
  have ir : inB (nI rr) 8 = true := inA_nI hrr (by omega)
  intro f
  induction f with
  | zero => intro i h S s hf; omega
  | succ f ih =>
    intro i h S s hf hi hw h40 hto hS hc hv
    show ∃ s', bX12_valueBy_9 N (lX12_valueBy_9 N f) 419 (nI rr) (nI h) (nI i) (mk s) = _ ∧ _
    unfold bX12_valueBy_9
    simp (decide := true) only [ob_s, cS_l, cS_r, gI_k, gR_k, pI_k, pR_k, cV_k, aI_k, tI_k, rZ_0, rZ_1, rZ_i, rf_12_0, rf_12_1, rf_12_3, rf_12_4, rf_12_5, rf_12_6, rf_12_7, rf_12_8, rf_12_9, rf_12_10, rf_12_11, rf_12_12, rf_12_13, rf_12_14, rf_12_15, rf_12_26, rf_12_27, rf_12_31, rf_12_32, rf_12_33, rf_12_34, rf_12_41, rf_12_44, rf_12_47, rf_12_48, rf_12_49, rf_12_51, rf_12_55, rf_12_56, rf_12_57, rf_12_58, rf_12_59, rf_12_60, Nat.reduceAdd, kc_419, kc_420, kc_421, kc_422, kc_423, kc_424, kc_425, kc_426, kc_427, kc_428, kc_429, kc_430, kc_431, kc_432, kc_433, kc_434, kc_435, kc_436, kc_437, kc_438, kc_439, kc_440, kc_441, kc_442, kc_443, kc_444, kc_445, kc_446, kc_447, kc_448, kc_449, kc_450, kc_451, kc_452, kc_453, kn_420, kn_421, kn_422, kn_423, kn_424, kn_425, kn_426, kn_427, kn_428, kn_429, kn_430, kn_431, kn_432, kn_433, kn_434, kn_435, kn_436, kn_437, kn_438, kn_439, kn_440, kn_441, kn_442, kn_443, kn_444, kn_445, kn_446, kn_447, kn_448, kn_449, kn_450, kn_451, kn_452, kn_453, ir, nI_clamp (show rr < 2 ^ 31 by omega), hto]
    by_cases c1 : e ≤ i
    · rw [if_pos (nI_le c1 (by omega))]
      rw [show e - i = 0 by omega] at hw ⊢
      have hw1 : h = 1 := hw
      subst hw1
      refine ⟨s, ?_, Fr_r _ _⟩
      unfold bX12_valueBy_135
      simp (decide := true) only [ob_s, cS_l, cS_r, gI_k, gR_k, pI_k, pR_k, cV_k, aI_k, tI_k, rZ_0, rZ_1, rZ_i, rf_12_0, rf_12_1, rf_12_3, rf_12_4, rf_12_5, rf_12_6, rf_12_7, rf_12_8, rf_12_9, rf_12_10, rf_12_11, rf_12_12, rf_12_13, rf_12_14, rf_12_15, rf_12_26, rf_12_27, rf_12_31, rf_12_32, rf_12_33, rf_12_34, rf_12_41, rf_12_44, rf_12_47, rf_12_48, rf_12_49, rf_12_51, rf_12_55, rf_12_56, rf_12_57, rf_12_58, rf_12_59, rf_12_60, Nat.reduceAdd, kc_419, kc_420, kc_421, kc_422, kc_423, kc_424, kc_425, kc_426, kc_427, kc_428, kc_429, kc_430, kc_431, kc_432, kc_433, kc_434, kc_435, kc_436, kc_437, kc_438, kc_439, kc_440, kc_441, kc_442, kc_443, kc_444, kc_445, kc_446, kc_447, kc_448, kc_449, kc_450, kc_451, kc_452, kc_453, kn_420, kn_421, kn_422, kn_423, kn_424, kn_425, kn_426, kn_427, kn_428, kn_429, kn_430, kn_431, kn_432, kn_433, kn_434, kn_435, kn_436, kn_437, kn_438, kn_439, kn_440, kn_441, kn_442, kn_443, kn_444, kn_445, kn_446, kn_447, kn_448, kn_449, kn_450, kn_451, kn_452, kn_453, nc_0, hS 0 (by omega)]
      rfl
    · rw [if_neg (nI_ge (by omega) (by omega))]
      obtain ⟨g, hg, hg2⟩ := sub1 (show i < e by omega)
      rw [hg] at hw ⊢
      have i1 : inB (nI i) 1400 = true := inA_nI (by omega) (by omega)
      simp (decide := true) only [ob_s, cS_l, cS_r, gI_k, gR_k, pI_k, pR_k, cV_k, aI_k, tI_k, rZ_0, rZ_1, rZ_i, rf_12_0, rf_12_1, rf_12_3, rf_12_4, rf_12_5, rf_12_6, rf_12_7, rf_12_8, rf_12_9, rf_12_10, rf_12_11, rf_12_12, rf_12_13, rf_12_14, rf_12_15, rf_12_26, rf_12_27, rf_12_31, rf_12_32, rf_12_33, rf_12_34, rf_12_41, rf_12_44, rf_12_47, rf_12_48, rf_12_49, rf_12_51, rf_12_55, rf_12_56, rf_12_57, rf_12_58, rf_12_59, rf_12_60, Nat.reduceAdd, kc_419, kc_420, kc_421, kc_422, kc_423, kc_424, kc_425, kc_426, kc_427, kc_428, kc_429, kc_430, kc_431, kc_432, kc_433, kc_434, kc_435, kc_436, kc_437, kc_438, kc_439, kc_440, kc_441, kc_442, kc_443, kc_444, kc_445, kc_446, kc_447, kc_448, kc_449, kc_450, kc_451, kc_452, kc_453, kn_420, kn_421, kn_422, kn_423, kn_424, kn_425, kn_426, kn_427, kn_428, kn_429, kn_430, kn_431, kn_432, kn_433, kn_434, kn_435, kn_436, kn_437, kn_438, kn_439, kn_440, kn_441, kn_442, kn_443, kn_444, kn_445, kn_446, kn_447, kn_448, kn_449, kn_450, kn_451, kn_452, kn_453, i1, nI_clamp (show i < 2 ^ 31 by omega), hc i (by omega)]
      rw [evq_s]
      have step : ∀ (h2 : Nat) (x : Int32) (S2 : Nat → Int32) (j2 : Nat), j2 < 64 → wfc q g (i + 1) h2 → h2 ≤ 40 → (∀ j, j < h2 → j ≠ j2 → S2 j = S j ∧ j < h) → S2 j2 = x → ∃ s', bX12_valueBy_129 N (lX12_valueBy_9 N f) 419 (nI rr) (nI h2) (nI i) (mk (sI s 438 j2 x)) = some (.inl (evq q v g (i + 1) h2 S2), mk s') ∧ Fr (fun x _ => x = 438) s s' := by
        intro h2 x S2 j2 hj2 w4 hh2 hS2 hx
        unfold bX12_valueBy_129
        rw [nI_1]
        have f1 : Fr (fun x _ => x = 438) s (sI s 438 j2 x) := Fr_sI rfl
        obtain ⟨s', b1, b2⟩ := ih (i + 1) h2 S2 (sI s 438 j2 x) (by omega) (by omega) (by rw [hg2]; exact w4) hh2 (by rw [f1.1 _ _ (by omega)]; exact hto) (fun j hj => by
          rw [sI_1]
          by_cases c : j = j2
          · rw [if_pos ⟨rfl, c⟩, c, hx]
          · rw [if_neg (fun q => c q.2)]
            obtain ⟨k1, k2⟩ := hS2 j hj c
            rw [k1]; exact hS j k2) (fun j hj => by rw [f1.1 _ _ (by omega)]; exact hc j hj) (fun j hj => by rw [f1.1 _ _ (by omega)]; exact hv j hj)
        rw [hg2] at b1
        exact ⟨s', b1, Fr_t f1 b2⟩
      have em : ∀ x : Int32, x + -1 = x - 1 := fun x => by rw [Int32.sub_eq_add_neg]
      rcases hw with ⟨w1, w2, w3, w4⟩ | ⟨w1, w2, w4⟩ | ⟨w1, w2, w4⟩
      · rw [if_neg (Int32.not_le.mpr w1), if_pos w1]
        have ih2 : inB (nI h) 64 = true := inA_nI (by omega) (by omega)
        have nxt : ∀ x : Int32, ∃ s', bX12_valueBy_58 N (lX12_valueBy_9 N f) 419 (nI rr) (nI h) (nI i) 438 (nI h) x (mk s) = some (.inl (evq q v g (i + 1) (h + 1) (up1 S h x)), mk s') ∧ Fr (fun x _ => x = 438) s s' := by
          intro x
          unfold bX12_valueBy_58
          simp (decide := true) only [ob_s, cS_l, cS_r, gI_k, gR_k, pI_k, pR_k, cV_k, aI_k, tI_k, rZ_0, rZ_1, rZ_i, rf_12_0, rf_12_1, rf_12_3, rf_12_4, rf_12_5, rf_12_6, rf_12_7, rf_12_8, rf_12_9, rf_12_10, rf_12_11, rf_12_12, rf_12_13, rf_12_14, rf_12_15, rf_12_26, rf_12_27, rf_12_31, rf_12_32, rf_12_33, rf_12_34, rf_12_41, rf_12_44, rf_12_47, rf_12_48, rf_12_49, rf_12_51, rf_12_55, rf_12_56, rf_12_57, rf_12_58, rf_12_59, rf_12_60, Nat.reduceAdd, kc_419, kc_420, kc_421, kc_422, kc_423, kc_424, kc_425, kc_426, kc_427, kc_428, kc_429, kc_430, kc_431, kc_432, kc_433, kc_434, kc_435, kc_436, kc_437, kc_438, kc_439, kc_440, kc_441, kc_442, kc_443, kc_444, kc_445, kc_446, kc_447, kc_448, kc_449, kc_450, kc_451, kc_452, kc_453, kn_420, kn_421, kn_422, kn_423, kn_424, kn_425, kn_426, kn_427, kn_428, kn_429, kn_430, kn_431, kn_432, kn_433, kn_434, kn_435, kn_436, kn_437, kn_438, kn_439, kn_440, kn_441, kn_442, kn_443, kn_444, kn_445, kn_446, kn_447, kn_448, kn_449, kn_450, kn_451, kn_452, kn_453, ih2, nI_clamp (show h < 2 ^ 31 by omega), nI_1]
          exact step (h + 1) x (up1 S h x) h (by omega) w4 (by omega) (fun j hj hne => ⟨if_neg hne, by omega⟩) (if_pos rfl)
        by_cases c2 : q i < 0
        · rw [if_pos c2, if_pos c2]
          obtain ⟨j, hj, ej⟩ := val_ix w2 c2
          have ij : inB (nI j) 8 = true := inA_nI hj (by omega)
          simp (decide := true) only [ob_s, cS_l, cS_r, gI_k, gR_k, pI_k, pR_k, cV_k, aI_k, tI_k, rZ_0, rZ_1, rZ_i, rf_12_0, rf_12_1, rf_12_3, rf_12_4, rf_12_5, rf_12_6, rf_12_7, rf_12_8, rf_12_9, rf_12_10, rf_12_11, rf_12_12, rf_12_13, rf_12_14, rf_12_15, rf_12_26, rf_12_27, rf_12_31, rf_12_32, rf_12_33, rf_12_34, rf_12_41, rf_12_44, rf_12_47, rf_12_48, rf_12_49, rf_12_51, rf_12_55, rf_12_56, rf_12_57, rf_12_58, rf_12_59, rf_12_60, Nat.reduceAdd, kc_419, kc_420, kc_421, kc_422, kc_423, kc_424, kc_425, kc_426, kc_427, kc_428, kc_429, kc_430, kc_431, kc_432, kc_433, kc_434, kc_435, kc_436, kc_437, kc_438, kc_439, kc_440, kc_441, kc_442, kc_443, kc_444, kc_445, kc_446, kc_447, kc_448, kc_449, kc_450, kc_451, kc_452, kc_453, kn_420, kn_421, kn_422, kn_423, kn_424, kn_425, kn_426, kn_427, kn_428, kn_429, kn_430, kn_431, kn_432, kn_433, kn_434, kn_435, kn_436, kn_437, kn_438, kn_439, kn_440, kn_441, kn_442, kn_443, kn_444, kn_445, kn_446, kn_447, kn_448, kn_449, kn_450, kn_451, kn_452, kn_453, ej, ij, nI_clamp (show j < 2 ^ 31 by omega), hv j hj]
          exact nxt (v j)
        · rw [if_neg c2, if_neg c2]
          exact nxt (q i)
      · obtain ⟨h', rfl⟩ : ∃ h', h = h' + 1 := ⟨h - 1, by omega⟩
        have n20 : ¬ -20 < q i := by rw [w1]; decide
        have ih2 : inB (nI h') 64 = true := inA_nI (by omega) (by omega)
        rw [if_pos (Int32.not_lt.mp n20), if_neg (fun q => q w1), if_neg n20, if_pos w1, nI_pred]
        simp (decide := true) only [ob_s, cS_l, cS_r, gI_k, gR_k, pI_k, pR_k, cV_k, aI_k, tI_k, rZ_0, rZ_1, rZ_i, rf_12_0, rf_12_1, rf_12_3, rf_12_4, rf_12_5, rf_12_6, rf_12_7, rf_12_8, rf_12_9, rf_12_10, rf_12_11, rf_12_12, rf_12_13, rf_12_14, rf_12_15, rf_12_26, rf_12_27, rf_12_31, rf_12_32, rf_12_33, rf_12_34, rf_12_41, rf_12_44, rf_12_47, rf_12_48, rf_12_49, rf_12_51, rf_12_55, rf_12_56, rf_12_57, rf_12_58, rf_12_59, rf_12_60, Nat.reduceAdd, kc_419, kc_420, kc_421, kc_422, kc_423, kc_424, kc_425, kc_426, kc_427, kc_428, kc_429, kc_430, kc_431, kc_432, kc_433, kc_434, kc_435, kc_436, kc_437, kc_438, kc_439, kc_440, kc_441, kc_442, kc_443, kc_444, kc_445, kc_446, kc_447, kc_448, kc_449, kc_450, kc_451, kc_452, kc_453, kn_420, kn_421, kn_422, kn_423, kn_424, kn_425, kn_426, kn_427, kn_428, kn_429, kn_430, kn_431, kn_432, kn_433, kn_434, kn_435, kn_436, kn_437, kn_438, kn_439, kn_440, kn_441, kn_442, kn_443, kn_444, kn_445, kn_446, kn_447, kn_448, kn_449, kn_450, kn_451, kn_452, kn_453, ih2, nI_clamp (show h' < 2 ^ 31 by omega), hS h' (by omega)]
        rw [show h' + 1 - 1 = h' by omega]
        have nxt : ∀ x : Int32, ∃ s', bX12_valueBy_95 N (lX12_valueBy_9 N f) 419 (nI rr) (nI (h' + 1)) (nI i) 438 (nI h') x (mk s) = some (.inl (evq q v g (i + 1) (h' + 1) (up1 S h' x)), mk s') ∧ Fr (fun x _ => x = 438) s s' := by
          intro x
          unfold bX12_valueBy_95
          simp (decide := true) only [ob_s, cS_l, cS_r, gI_k, gR_k, pI_k, pR_k, cV_k, aI_k, tI_k, rZ_0, rZ_1, rZ_i, rf_12_0, rf_12_1, rf_12_3, rf_12_4, rf_12_5, rf_12_6, rf_12_7, rf_12_8, rf_12_9, rf_12_10, rf_12_11, rf_12_12, rf_12_13, rf_12_14, rf_12_15, rf_12_26, rf_12_27, rf_12_31, rf_12_32, rf_12_33, rf_12_34, rf_12_41, rf_12_44, rf_12_47, rf_12_48, rf_12_49, rf_12_51, rf_12_55, rf_12_56, rf_12_57, rf_12_58, rf_12_59, rf_12_60, Nat.reduceAdd, kc_419, kc_420, kc_421, kc_422, kc_423, kc_424, kc_425, kc_426, kc_427, kc_428, kc_429, kc_430, kc_431, kc_432, kc_433, kc_434, kc_435, kc_436, kc_437, kc_438, kc_439, kc_440, kc_441, kc_442, kc_443, kc_444, kc_445, kc_446, kc_447, kc_448, kc_449, kc_450, kc_451, kc_452, kc_453, kn_420, kn_421, kn_422, kn_423, kn_424, kn_425, kn_426, kn_427, kn_428, kn_429, kn_430, kn_431, kn_432, kn_433, kn_434, kn_435, kn_436, kn_437, kn_438, kn_439, kn_440, kn_441, kn_442, kn_443, kn_444, kn_445, kn_446, kn_447, kn_448, kn_449, kn_450, kn_451, kn_452, kn_453, ih2, nI_clamp (show h' < 2 ^ 31 by omega)]
          exact step (h' + 1) x (up1 S h' x) h' (by omega) w4 (by omega) (fun j hj hne => ⟨if_neg hne, by omega⟩) (if_pos rfl)
        by_cases c3 : S h' = 0
        · rw [if_pos c3, if_pos c3]
          exact nxt 1
        · rw [if_neg c3, if_neg c3]
          exact nxt 0
      · obtain ⟨h', rfl⟩ : ∃ h', h = h' + 1 + 1 := ⟨h - 2, by omega⟩
        obtain ⟨o1, o2, o3, o4, o5⟩ := opq_n w1
        have ih2 : inB (nI h') 64 = true := inA_nI (by omega) (by omega)
        have ih3 : inB (nI (h' + 1)) 64 = true := inA_nI (by omega) (by omega)
        rw [if_pos (Int32.not_lt.mp o1), if_pos o2, if_neg o1, if_neg o2, em, nI_pred, nI_pred]
        simp (decide := true) only [ob_s, cS_l, cS_r, gI_k, gR_k, pI_k, pR_k, cV_k, aI_k, tI_k, rZ_0, rZ_1, rZ_i, rf_12_0, rf_12_1, rf_12_3, rf_12_4, rf_12_5, rf_12_6, rf_12_7, rf_12_8, rf_12_9, rf_12_10, rf_12_11, rf_12_12, rf_12_13, rf_12_14, rf_12_15, rf_12_26, rf_12_27, rf_12_31, rf_12_32, rf_12_33, rf_12_34, rf_12_41, rf_12_44, rf_12_47, rf_12_48, rf_12_49, rf_12_51, rf_12_55, rf_12_56, rf_12_57, rf_12_58, rf_12_59, rf_12_60, Nat.reduceAdd, kc_419, kc_420, kc_421, kc_422, kc_423, kc_424, kc_425, kc_426, kc_427, kc_428, kc_429, kc_430, kc_431, kc_432, kc_433, kc_434, kc_435, kc_436, kc_437, kc_438, kc_439, kc_440, kc_441, kc_442, kc_443, kc_444, kc_445, kc_446, kc_447, kc_448, kc_449, kc_450, kc_451, kc_452, kc_453, kn_420, kn_421, kn_422, kn_423, kn_424, kn_425, kn_426, kn_427, kn_428, kn_429, kn_430, kn_431, kn_432, kn_433, kn_434, kn_435, kn_436, kn_437, kn_438, kn_439, kn_440, kn_441, kn_442, kn_443, kn_444, kn_445, kn_446, kn_447, kn_448, kn_449, kn_450, kn_451, kn_452, kn_453, ih2, ih3, nI_clamp (show h' < 2 ^ 31 by omega), nI_clamp (show h' + 1 < 2 ^ 31 by omega), hS h' (by omega), hS (h' + 1) (by omega), m_reckon]
        rw [show h' + 1 + 1 - 1 = h' + 1 by omega, show h' + 1 + 1 - 2 = h' by omega]
        exact step (h' + 1) _ (up1 S h' (rck (q i) (S h') (S (h' + 1)))) h' (by omega) w4 (by omega) (fun j hj hne => ⟨if_neg hne, by omega⟩) (if_pos rfl)
end RL
