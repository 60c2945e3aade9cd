/- needs: 63.token2 -/
/-! the reference steps on to the next token -/
def iLt (x : Int32) : Int32 := if x < 97 then 0 else if 122 < x then 0 else 1
def iDg (x : Int32) : Int32 := if x < 48 then 0 else if 57 < x then 0 else 1
def iMk (x : Int32) : Int32 := if x = 59 ∨ x = 40 ∨ x = 41 ∨ x = 43 ∨ x = 45 ∨ x = 42 ∨ x = 47 ∨ x = 60 ∨ x = 61 then 1 else 0
theorem ik_e : ∀ v, v < 256 → iLt (nI v) = sk_i (decide (kdN v = 1)) ∧ iDg (nI v) = sk_i (decide (kdN v = 2)) ∧ (¬ kdN v = 1 → ¬ kdN v = 2 → iMk (nI v) = sk_i (decide (kdN v = 3))) ∧ (nI v = 32 ↔ v = 32) ∧ (nI v = 10 ↔ v = 10) ∧ ¬ nI v = -1 := by decide +kernel
def TxR (s : sg) (L : Nat) (T : Nat → Nat) : Prop := s.1 419 18 = nI L ∧ ∀ j, j < L → s.1 434 j = nI (T j)
def TkR (s : sg) (k a e : Nat) : Prop := s.1 419 19 = nI k ∧ s.1 419 21 = nI a ∧ s.1 419 22 = nI e ∧ s.1 419 17 = nI e
/-- a number as it is read on -/
def nmf (T : Nat → Nat) (L : Nat) : Nat → Nat → Nat → Nat
  | 0, _, x => x
  | f + 1, p, x => if p < L ∧ kdN (T p) = 2 then nmf T L f (p + 1) (min 100000 (10 * x + T p - 48)) else x
theorem nmf_s (T : Nat → Nat) (L f p x : Nat) : nmf T L (f + 1) p x = if p < L ∧ kdN (T p) = 2 then nmf T L f (p + 1) (min 100000 (10 * x + T p - 48)) else x := rfl
theorem kd_2 : ∀ v, v < 256 → kdN v = 2 → 48 ≤ v ∧ v ≤ 57 := by decide +kernel
def rT (x j : Nat) : Prop := x = 419 ∧ (j = 17 ∨ (19 ≤ j ∧ j ≤ 22))
section TR
variable {N : Nat} {s : sg} {L e : Nat} {T : Nat → Nat}
theorem r_isLt (x : Int32) (c : mm_C) : fX12_isLetter N x c = some (.inl (iLt x), c) := by
  unfold fX12_isLetter bX12_isLetter_0 iLt
  by_cases h : x < 97
  · rw [if_pos h, if_pos h]; rfl
  · rw [if_neg h, if_neg h]
    by_cases h2 : 122 < x
    · rw [if_pos h2, if_pos h2]; rfl
    · rw [if_neg h2, if_neg h2]; rfl
theorem r_isDg (x : Int32) (c : mm_C) : fX12_isDigit N x c = some (.inl (iDg x), c) := by
  unfold fX12_isDigit bX12_isDigit_0 iDg
  by_cases h : x < 48
  · rw [if_pos h, if_pos h]; rfl
  · rw [if_neg h, if_neg h]
    by_cases h2 : 57 < x
    · rw [if_pos h2, if_pos h2]; rfl
    · rw [if_neg h2, if_neg h2]; rfl
theorem r_isMk (x : Int32) (c : mm_C) : fX12_isMark N x c = some (.inl (iMk x), c) := by
  have e1 : bX12_isMark_54 N c = some (.inl 1, c) := rfl
  have e0 : rZ (0 : Int32) c = some (.inl 0, c) := rfl
  unfold fX12_isMark bX12_isMark_0 iMk
  rw [e1, e0]
  by_cases h1 : x = 59
  · simp [h1]
  · by_cases h2 : x = 40
    · simp [h2]
    · by_cases h3 : x = 41
      · simp [h3]
      · by_cases h4 : x = 43
        · simp [h4]
        · by_cases h5 : x = 45
          · simp [h5]
          · by_cases h6 : x = 42
            · simp [h6]
            · by_cases h7 : x = 47
              · simp [h7]
              · by_cases h8 : x = 60
                · simp [h8]
                · by_cases h9 : x = 61
                  · simp [h9]
                  · simp [h1, h2, h3, h4, h5, h6, h7, h8, h9]
theorem r_byte (hL : L ≤ 700) (hX : TxR s L T) {i : Nat} (hi : i < L) : fX12_byteAt N 419 (nI i) (mk s) = some (.inl (nI (T i)), mk s) := by
  have ii : inB (nI i) 700 = true := inA_nI (by omega) (by omega)
  unfold fX12_byteAt bX12_byteAt_0
  rw [gI12 18 rfl, ob_s, hX.1, if_neg (nI_ge hi (by omega)), gR12 15 434 rfl rfl, ob_s, aI_k ⟨rfl, ii⟩, ob_s, nI_clamp (by omega), hX.2 i hi]
theorem r_byteE (hX : TxR s L T) {i : Nat} (hi : L ≤ i) (hi2 : i < 2 ^ 31) : fX12_byteAt N 419 (nI i) (mk s) = some (.inl (-1), mk s) := by
  unfold fX12_byteAt bX12_byteAt_0
  rw [gI12 18 rfl, ob_s, hX.1, if_pos (nI_le hi hi2)]
theorem TxR_fr {s' : sg} (h : TxR s L T) (f : Fr rT s s') : TxR s' L T := ⟨(f.1 _ _ (fun g => by unfold rT at g; omega)).trans h.1, fun j hj => (f.1 _ _ (fun g => by unfold rT at g; omega)).trans (h.2 j hj)⟩
theorem r_st212 {a e k : Nat} (h17 : s.1 419 17 = nI e) (h21 : s.1 419 21 = nI a) (h19 : s.1 419 19 = nI k) : ∃ s', bX12_stepOn_212 N 419 (mk s) = some (.inl (), mk s') ∧ TkR s' k a e ∧ s'.1 419 20 = s.1 419 20 ∧ Fr rT s s' := by
  refine ⟨sI s 419 22 (nI e), ?_, ⟨?_, ?_, sI_at _ _ _ _, ?_⟩, ?_, Fr_sI (by unfold rT; omega)⟩
  · unfold bX12_stepOn_212
    rw [gI12 17 rfl, ob_s, h17, pI12 22 rfl, ob_s]
  · rw [sI_1, if_neg (by omega)]; exact h19
  · rw [sI_1, if_neg (by omega)]; exact h21
  · rw [sI_1, if_neg (by omega)]; exact h17
  · rw [sI_1, if_neg (by omega)]
theorem r_st76 {a : Nat} (hL : L ≤ 700) (hT : ∀ j, j < L → T j < 256) : ∀ (f p : Nat) (s : sg), L - p < f → p ≤ L → TxR s L T → s.1 419 17 = nI p → s.1 419 21 = nI a → ∃ s', lX12_stepOn_76 N f 419 (mk s) = some (.inl (), mk s') ∧ TkR s' 1 a (rnk T L 1 (L - p) p) ∧ Fr rT s s' := by
  intro f
  induction f with
  | zero => intro p s hf; omega
  | succ f ih =>
    intro p s hf hp hX h17 h21
    show ∃ s', bX12_stepOn_76 N (lX12_stepOn_76 N f) 419 (mk s) = _ ∧ _
    unfold bX12_stepOn_76 bX12_stepOn_103
    have stop : ∃ s', (Option.bind (pI (mk s) 419 12 19 (1 : Int32)) fun c1 => bX12_stepOn_212 N 419 c1) = some (.inl (), mk s') ∧ TkR s' 1 a p ∧ Fr rT s s' := by
      have f1 : Fr rT s (sI s 419 19 1) := Fr_sI (by unfold rT; omega)
      obtain ⟨s', b1, b2, _, b3⟩ := r_st212 (N := N) (s := sI s 419 19 1) (a := a) (e := p) (k := 1) (by rw [sI_1, if_neg (by omega)]; exact h17) (by rw [sI_1, if_neg (by omega)]; exact h21) (sI_at _ _ _ _)
      refine ⟨s', ?_, b2, Fr_t f1 b3⟩
      rw [pI12 19 rfl, ob_s]
      exact b1
    rw [gI12 17 rfl, ob_s, h17, cV12]
    by_cases c : L ≤ p
    · rw [r_byteE hX c (by omega), cS_l, r_isLt, cS_l, if_pos (show iLt (-1) = 0 by decide), show L - p = 0 by omega]
      exact stop
    · obtain ⟨g, hg, hg2⟩ := sub1 (show p < L by omega)
      obtain ⟨q1, _⟩ := ik_e (T p) (hT p (by omega))
      rw [r_byte hL hX (show p < L by omega), cS_l, r_isLt, cS_l, q1, hg, rnk_s]
      by_cases c2 : kdN (T p) = 1
      · rw [if_neg (show ¬ sk_i (decide (kdN (T p) = 1)) = 0 by rw [decide_eq_true c2]; decide), if_pos ⟨by omega, c2⟩, gI12 17 rfl, ob_s, h17, pI12 17 rfl, ob_s, nI_1]
        have f1 : Fr rT s (sI s 419 17 (nI (p + 1))) := Fr_sI (by unfold rT; omega)
        obtain ⟨s', b1, b2, b3⟩ := ih (p + 1) (sI s 419 17 (nI (p + 1))) (by omega) (by omega) (TxR_fr hX f1) (sI_at _ _ _ _) (by rw [sI_1, if_neg (by omega)]; exact h21)
        rw [hg2] at b2
        exact ⟨s', b1, b2, Fr_t f1 b3⟩
      · rw [if_pos (show sk_i (decide (kdN (T p) = 1)) = 0 by rw [decide_eq_false c2]; decide), if_neg (fun w => c2 w.2)]
        exact stop
end TR
