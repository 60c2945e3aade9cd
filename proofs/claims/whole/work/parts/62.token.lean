/- needs: 61.feed -/
/-! tokens: what they are, and the class's -/
def kdN (v : Nat) : Nat := if 97 ≤ v ∧ v ≤ 122 then 1 else if 48 ≤ v ∧ v ≤ 57 then 2 else if v = 59 ∨ v = 40 ∨ v = 41 ∨ v = 43 ∨ v = 45 ∨ v = 42 ∨ v = 47 ∨ v = 60 ∨ v = 61 then 3 else 4
def skp (T : Nat → Nat) (L : Nat) : Nat → Nat → Nat
  | 0, p => p
  | f + 1, p => if p < L ∧ (T p = 32 ∨ T p = 10) then skp T L f (p + 1) else p
theorem skp_s (T : Nat → Nat) (L f p : Nat) : skp T L (f + 1) p = if p < L ∧ (T p = 32 ∨ T p = 10) then skp T L f (p + 1) else p := rfl
def rnk (T : Nat → Nat) (L k : Nat) : Nat → Nat → Nat
  | 0, p => p
  | f + 1, p => if p < L ∧ kdN (T p) = k then rnk T L k f (p + 1) else p
theorem rnk_s (T : Nat → Nat) (L k f p : Nat) : rnk T L k (f + 1) p = if p < L ∧ kdN (T p) = k then rnk T L k f (p + 1) else p := rfl
def tkA (T : Nat → Nat) (L e : Nat) : Nat := skp T L (L - e) e
def tkK (T : Nat → Nat) (L e : Nat) : Nat := if tkA T L e < L then kdN (T (tkA T L e)) else 0
def tkE (T : Nat → Nat) (L e : Nat) : Nat := if tkA T L e < L then (if kdN (T (tkA T L e)) = 1 ∨ kdN (T (tkA T L e)) = 2 then rnk T L (kdN (T (tkA T L e))) (L - (tkA T L e + 1)) (tkA T L e + 1) else tkA T L e + 1) else L
theorem skp_le (T : Nat → Nat) (L : Nat) : ∀ f p, p ≤ L → p ≤ skp T L f p ∧ skp T L f p ≤ L
  | 0, p, h => ⟨Nat.le_refl _, h⟩
  | f + 1, p, h => by
    rw [skp_s]
    by_cases c : p < L ∧ (T p = 32 ∨ T p = 10)
    · rw [if_pos c]
      have := skp_le T L f (p + 1) (by omega)
      omega
    · rw [if_neg c]
      exact ⟨Nat.le_refl _, h⟩
theorem rnk_le (T : Nat → Nat) (L k : Nat) : ∀ f p, p ≤ L → p ≤ rnk T L k f p ∧ rnk T L k f p ≤ L
  | 0, p, h => ⟨Nat.le_refl _, h⟩
  | f + 1, p, h => by
    rw [rnk_s]
    by_cases c : p < L ∧ kdN (T p) = k
    · rw [if_pos c]
      have := rnk_le T L k f (p + 1) (by omega)
      omega
    · rw [if_neg c]
      exact ⟨Nat.le_refl _, h⟩
theorem tkA_le {T : Nat → Nat} {L e : Nat} (h : e ≤ L) : e ≤ tkA T L e ∧ tkA T L e ≤ L := skp_le T L _ e h
theorem tkE_le {T : Nat → Nat} {L e : Nat} (h : e ≤ L) : tkA T L e ≤ tkE T L e ∧ tkE T L e ≤ L := by
  have ha := tkA_le (T := T) h
  unfold tkE
  by_cases c : tkA T L e < L
  · rw [if_pos c]
    by_cases c2 : kdN (T (tkA T L e)) = 1 ∨ kdN (T (tkA T L e)) = 2
    · rw [if_pos c2]
      have := rnk_le T L (kdN (T (tkA T L e))) (L - (tkA T L e + 1)) (tkA T L e + 1) (by omega)
      omega
    · rw [if_neg c2]; omega
  · rw [if_neg c]; omega
/-! the class's kinds of bytes -/
def kC28 (x : Int32) : Option Int32 := Option.bind (sIx (1000000 + 1) (((x &&& (255 : Int32)).toUInt32 % 65536).toInt32)) fun y => if y < 0 then some 4 else some 3
def kC14 (x : Int32) : Option Int32 := if x < (48 : Int32) then kC28 x else (if (57 : Int32) < x then kC28 x else some 2)
def kC (x : Int32) : Option Int32 := if x < (97 : Int32) then kC14 x else (if (122 : Int32) < x then kC14 x else some 1)
theorem kC_e : ∀ v, v < 256 → kC (cby v) = some (nI (kdN v)) ∧ (cby v = 32 ↔ v = 32) ∧ (cby v = 10 ↔ v = 10) := by decide +kernel
theorem kdN_le (v : Nat) : 1 ≤ kdN v ∧ kdN v ≤ 4 := by
  unfold kdN
  split
  · omega
  · split
    · omega
    · split <;> omega
section TK
variable {N : Nat} {s : sg} {L e : Nat} {T : Nat → Nat}
theorem c_kd28 (x : Int32) (c : mm_C) : bX10_kindOf_28 N x c = Option.bind (kC28 x) fun y => some (.inl y, c) := by
  unfold bX10_kindOf_28 kC28
  cases sIx (1000000 + 1) (((x &&& (255 : Int32)).toUInt32 % 65536).toInt32) with
  | none => rfl
  | some y =>
    rw [ob_s, ob_s]
    by_cases h : y < 0
    · rw [if_pos h, if_pos h, ob_s]
    · rw [if_neg h, if_neg h, ob_s]
theorem c_kd14 (x : Int32) (c : mm_C) : bX10_kindOf_14 N x c = Option.bind (kC14 x) fun y => some (.inl y, c) := by
  unfold bX10_kindOf_14 kC14
  by_cases h : x < 48
  · rw [if_pos h, if_pos h, c_kd28]
  · rw [if_neg h, if_neg h]
    by_cases h2 : 57 < x
    · rw [if_pos h2, if_pos h2, c_kd28]
    · rw [if_neg h2, if_neg h2, ob_s]
theorem c_kd0 (x : Int32) (c : mm_C) : fX10_kindOf N x c = Option.bind (kC x) fun y => some (.inl y, c) := by
  unfold fX10_kindOf bX10_kindOf_0 kC
  by_cases h : x < 97
  · rw [if_pos h, if_pos h, c_kd14]
  · rw [if_neg h, if_neg h]
    by_cases h2 : 122 < x
    · rw [if_pos h2, if_pos h2, c_kd14]
    · rw [if_neg h2, if_neg h2, ob_s]
theorem c_kindOf {v : Nat} (hv : v < 256) (c : mm_C) : fX10_kindOf N (cby v) c = some (.inl (nI (kdN v)), c) := by
  rw [c_kd0, (kC_e v hv).1, ob_s]
def TxC (s : sg) (L : Nat) (T : Nat → Nat) : Prop := s.1 35 3 = nI L ∧ ∀ j, j < L → s.1 36 j = cby (T j)
theorem gI10 (j : Nat) (h : fI 10 j = true) : gI (mk s) 35 10 j = some (s.1 35 j) := gI_k ⟨rfl, h, by decide⟩
theorem pI10 (j : Nat) (h : fI 10 j = true) {x : Int32} : pI (mk s) 35 10 j x = some (mk (sI s 35 j x)) := pI_k ⟨rfl, h, by decide⟩
theorem gR10 : gR (mk s) 35 10 2 = some 36 := gR_k ⟨rfl, rfl, by decide⟩
theorem aB36 {i : Nat} (hi : i < 700) : aB (mk s) 36 (nI i) = some (s.1 36 i) := by
  have h := aB_k (s := s) (a := 36) (i := nI i) ⟨rfl, inA_nI hi (by omega)⟩
  rw [nI_clamp (by omega)] at h
  exact h
theorem TxC_fr {s' : sg} (h : TxC s L T) (f : Fr (fun x j => x = 35 ∧ (j = 0 ∨ j = 1 ∨ j = 4)) s s') : TxC s' L T := ⟨(f.1 _ _ (by omega)).trans h.1, fun j hj => (f.1 _ _ (by omega)).trans (h.2 j hj)⟩
theorem c_adv124 {k : Nat} (hL : L ≤ 700) (hT : ∀ j, j < L → T j < 256) (hk : k ≤ 4) : ∀ (f p : Nat) (s : sg), L - p < f → p ≤ L → TxC s L T → s.1 35 4 = nI p → s.1 35 0 = nI k → ∃ s', lX10_advances_124 N f 35 (mk s) = some (.inl (), mk s') ∧ s'.1 35 4 = nI (rnk T L k (L - p) p) ∧ Fr (fun x j => x = 35 ∧ j = 4) s s' := by
  intro f
  induction f with
  | zero => intro p s hf; omega
  | succ f ih =>
    intro p s hf hp hX h4 h0
    show ∃ s', bX10_advances_124 N (lX10_advances_124 N f) 35 (mk s) = _ ∧ _
    unfold bX10_advances_124
    rw [gI10 4 rfl, ob_s, gI10 3 rfl, ob_s, h4, hX.1]
    by_cases c : L ≤ p
    · rw [if_pos (nI_le c (by omega)), show L - p = 0 by omega]
      exact ⟨s, rfl, h4, Fr_r _ _⟩
    · rw [if_neg (nI_ge (by omega) (by omega))]
      obtain ⟨g, hg, hg2⟩ := sub1 (show p < L by omega)
      rw [gR10, ob_s, ob_s, aB36 (by omega), ob_s, hX.2 p (by omega), c_kindOf (hT p (by omega)), cS_l, gI10 0 rfl, ob_s, h0, hg, rnk_s]
      have hkd := kdN_le (T p)
      by_cases c2 : kdN (T p) = k
      · rw [if_neg (fun q => q (by rw [c2])), if_pos ⟨by omega, c2⟩, gI10 4 rfl, ob_s, h4, pI10 4 rfl, ob_s, nI_1]
        have f1 : Fr (fun x j => x = 35 ∧ j = 4) s (sI s 35 4 (nI (p + 1))) := Fr_sI ⟨rfl, rfl⟩
        obtain ⟨s', b1, b2, b3⟩ := ih (p + 1) (sI s 35 4 (nI (p + 1))) (by omega) (by omega) (TxC_fr hX (Fr_m f1 (by intros; omega))) (sI_at _ _ _ _) ((f1.1 _ _ (by omega)).trans h0)
        rw [hg2] at b2
        exact ⟨s', b1, b2, Fr_t f1 b3⟩
      · rw [if_pos (fun q => c2 ((nI_inj (by omega) (by omega)).mp q)), if_neg (fun q => c2 q.2)]
        exact ⟨s, rfl, h4, Fr_r _ _⟩
end TK
