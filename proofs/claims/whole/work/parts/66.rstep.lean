/- needs: 65.rtoken2 -/
/-! the reference steps on, whole -/
section TU
variable {N : Nat} {s : sg} {L e : Nat} {T : Nat → Nat}
theorem r_st39 {a : Nat} (hN1 : 1000 ≤ N) (hL : L ≤ 700) (hT : ∀ j, j < L → T j < 256) (hX : TxR s L T) (ha : a ≤ L) (h17 : s.1 419 17 = nI a) : ∃ s', bX12_stepOn_39 N 419 (mk s) = some (.inl (), mk s') ∧ TkR s' (if a < L then kdN (T a) else 0) a (if a < L then (if kdN (T a) = 1 ∨ kdN (T a) = 2 then rnk T L (kdN (T a)) (L - (a + 1)) (a + 1) else a + 1) else L) ∧ (a < L → kdN (T a) = 2 → s'.1 419 20 = nI (nmf T L (L - a) a 0)) ∧ Fr rT s s' := by
  have f1 : Fr rT s (sI s 419 21 (nI a)) := Fr_sI (by unfold rT; omega)
  have hX1 := TxR_fr hX f1
  have k17 : (sI s 419 21 (nI a)).1 419 17 = nI a := by rw [sI_1, if_neg (by omega)]; exact h17
  have k21 : (sI s 419 21 (nI a)).1 419 21 = nI a := sI_at _ _ _ _
  unfold bX12_stepOn_39
  rw [gI12 17 rfl, ob_s, h17, pI12 21 rfl, ob_s]
  generalize sI s 419 21 (nI a) = s1 at f1 hX1 k17 k21
  rw [gI12 17 rfl, ob_s, k17, cV12]
  by_cases c : a < L
  · obtain ⟨q1, q2, q3, _, _, q6⟩ := ik_e (T a) (hT a c)
    obtain ⟨g, hg, hg2⟩ := sub1 c
    have hkd := kdN_le (T a)
    rw [r_byte hL hX1 c, cS_l, if_pos q6, r_isLt, cS_l, q1, if_pos c, if_pos c]
    by_cases c1 : kdN (T a) = 1
    · rw [if_neg (show ¬ sk_i (decide (kdN (T a) = 1)) = 0 by rw [decide_eq_true c1]; decide), if_pos (Or.inl c1), c1]
      obtain ⟨s', b1, b2, b3⟩ := r_st76 (N := N) (a := a) hL hT N a s1 (by omega) ha hX1 k17 k21
      rw [hg, rnk_s, if_pos ⟨c, c1⟩] at b2
      rw [hg2]
      exact ⟨s', b1, b2, fun _ w => by omega, Fr_t f1 b3⟩
    · rw [if_pos (show sk_i (decide (kdN (T a) = 1)) = 0 by rw [decide_eq_false c1]; decide), r_isDg, cS_l, q2]
      by_cases c2 : kdN (T a) = 2
      · rw [if_neg (show ¬ sk_i (decide (kdN (T a) = 2)) = 0 by rw [decide_eq_true c2]; decide), if_pos (Or.inr c2), c2, pI12 20 rfl, ob_s]
        have f2 : Fr rT s1 (sI s1 419 20 0) := Fr_sI (by unfold rT; omega)
        obtain ⟨s', b1, b2, b4, b3⟩ := r_st123 (N := N) (a := a) hL hT N a 0 (sI s1 419 20 0) (by omega) ha (by omega) (TxR_fr hX1 f2) (by rw [sI_1, if_neg (by omega)]; exact k17) (by rw [sI_1, if_neg (by omega)]; exact k21) (sI_at _ _ _ _)
        rw [hg, rnk_s, if_pos ⟨c, c2⟩] at b2
        rw [hg2]
        exact ⟨s', b1, b2, fun _ _ => b4, Fr_t f1 (Fr_t f2 b3)⟩
      · rw [if_pos (show sk_i (decide (kdN (T a) = 2)) = 0 by rw [decide_eq_false c2]; decide), if_neg (by omega), gI12 17 rfl, ob_s, k17, pI12 17 rfl, ob_s, nI_1, r_isMk, cS_l, q3 c1 c2]
        have key : ∃ s', bX12_stepOn_209 N 419 419 (nI (kdN (T a))) (mk (sI s1 419 17 (nI (a + 1)))) = some (.inl (), mk s') ∧ TkR s' (kdN (T a)) a (a + 1) ∧ (a < L → kdN (T a) = 2 → s'.1 419 20 = nI (nmf T L (L - a) a 0)) ∧ Fr rT s s' := by
          obtain ⟨s', b1, b2, _, b3⟩ := r_st212 (N := N) (s := sI (sI s1 419 17 (nI (a + 1))) 419 19 (nI (kdN (T a)))) (a := a) (e := a + 1) (k := kdN (T a)) (by rw [sI_1, if_neg (by omega), sI_at]) (by rw [sI_1, if_neg (by omega), sI_1, if_neg (by omega)]; exact k21) (sI_at _ _ _ _)
          refine ⟨s', ?_, b2, fun _ w => absurd w c2, Fr_t f1 (Fr_t (Fr_t (Fr_sI (by unfold rT; omega)) (Fr_sI (by unfold rT; omega))) b3)⟩
          unfold bX12_stepOn_209
          rw [pI12 19 rfl, ob_s]
          exact b1
        by_cases c3 : kdN (T a) = 3
        · rw [if_neg (show ¬ sk_i (decide (kdN (T a) = 3)) = 0 by rw [decide_eq_true c3]; decide)]
          rw [show nI (kdN (T a)) = 3 by rw [c3]; rfl] at key
          exact key
        · rw [if_pos (show sk_i (decide (kdN (T a) = 3)) = 0 by rw [decide_eq_false c3]; decide)]
          rw [show nI (kdN (T a)) = 4 by rw [show kdN (T a) = 4 by omega]; rfl] at key
          exact key
  · rw [r_byteE hX1 (by omega) (by omega), cS_l, if_neg (fun w => w rfl), if_neg c, if_neg c, pI12 19 rfl, ob_s]
    have f2 : Fr rT s1 (sI s1 419 19 0) := Fr_sI (by unfold rT; omega)
    obtain ⟨s', b1, b2, _, b3⟩ := r_st212 (N := N) (s := sI s1 419 19 0) (a := a) (e := L) (k := 0) (by rw [sI_1, if_neg (by omega), show L = a by omega]; exact k17) (by rw [sI_1, if_neg (by omega)]; exact k21) (sI_at _ _ _ _)
    exact ⟨s', b1, b2, fun w => absurd w c, Fr_t f1 (Fr_t f2 b3)⟩
theorem r_st0 (hN1 : 1000 ≤ N) (hL : L ≤ 700) (hT : ∀ j, j < L → T j < 256) : ∀ (f p : Nat) (s : sg), L - p < f → p ≤ L → TxR s L T → s.1 419 17 = nI p → ∃ s' a, a = skp T L (L - p) p ∧ lX12_stepOn_0 N f 419 (mk s) = some (.inl (), mk s') ∧ TkR s' (if a < L then kdN (T a) else 0) a (if a < L then (if kdN (T a) = 1 ∨ kdN (T a) = 2 then rnk T L (kdN (T a)) (L - (a + 1)) (a + 1) else a + 1) else L) ∧ (a < L → kdN (T a) = 2 → s'.1 419 20 = nI (nmf T L (L - a) a 0)) ∧ Fr rT s s' := by
  intro f
  induction f with
  | zero => intro p s hf; omega
  | succ f ih =>
    intro p s hf hp hX h17
    show ∃ s' a, _ ∧ bX12_stepOn_0 N (lX12_stepOn_0 N f) 419 (mk s) = _ ∧ _
    obtain ⟨s9, d1, d2, d3, d4⟩ := r_st39 (N := N) hN1 hL hT hX hp h17
    unfold bX12_stepOn_0 bX12_stepOn_26
    rw [gI12 17 rfl, ob_s, h17, cV12]
    by_cases c : L ≤ p
    · rw [r_byteE hX c (by omega), cS_l, if_neg (by decide), gI12 17 rfl, ob_s, h17, cV12, r_byteE hX c (by omega), cS_l, if_pos (by decide), show L - p = 0 by omega]
      exact ⟨s9, p, rfl, d1, d2, (show L - p = 0 by omega) ▸ d3, d4⟩
    · obtain ⟨g, hg, hg2⟩ := sub1 (show p < L by omega)
      obtain ⟨_, _, _, q1, q2, _⟩ := ik_e (T p) (hT p (by omega))
      rw [r_byte hL hX (show p < L by omega), cS_l]
      have f1 : Fr rT s (sI s 419 17 (nI (p + 1))) := Fr_sI (by unfold rT; omega)
      obtain ⟨s', a, b0, b1, b2, b4, b3⟩ := ih (p + 1) (sI s 419 17 (nI (p + 1))) (by omega) (by omega) (TxR_fr hX f1) (sI_at _ _ _ _)
      rw [hg2] at b0
      have es : skp T L (L - p) p = if p < L ∧ (T p = 32 ∨ T p = 10) then skp T L g (p + 1) else p := by rw [hg, skp_s]
      rw [es]
      by_cases c1 : T p = 32
      · rw [if_pos (show p < L ∧ (T p = 32 ∨ T p = 10) from ⟨by omega, Or.inl c1⟩), if_pos (q1.mpr c1), gI12 17 rfl, ob_s, h17, pI12 17 rfl, ob_s, nI_1]
        exact ⟨s', a, b0, b1, b2, b4, Fr_t f1 b3⟩
      · rw [if_neg (show ¬ nI (T p) = 32 from fun w => c1 (q1.mp w)), gI12 17 rfl, ob_s, h17, cV12, r_byte hL hX (show p < L by omega), cS_l]
        by_cases c2 : T p = 10
        · rw [if_pos (show p < L ∧ (T p = 32 ∨ T p = 10) from ⟨by omega, Or.inr c2⟩), if_neg (show ¬ ¬ nI (T p) = 10 from fun w => w (q2.mpr c2)), gI12 17 rfl, ob_s, h17, pI12 17 rfl, ob_s, nI_1]
          exact ⟨s', a, b0, b1, b2, b4, Fr_t f1 b3⟩
        · rw [if_neg (show ¬ (p < L ∧ (T p = 32 ∨ T p = 10)) by omega), if_pos (show ¬ nI (T p) = 10 from fun w => c2 (q2.mp w))]
          exact ⟨s9, p, rfl, d1, d2, d3, d4⟩
theorem r_step (hN1 : 1000 ≤ N) (hL : L ≤ 700) (hT : ∀ j, j < L → T j < 256) (hX : TxR s L T) (he : e ≤ L) (h17 : s.1 419 17 = nI e) : ∃ s', fX12_stepOn N 419 (mk s) = some (.inl (), mk s') ∧ TkR s' (tkK T L e) (tkA T L e) (tkE T L e) ∧ (tkK T L e = 2 → s'.1 419 20 = nI (nmf T L (L - tkA T L e) (tkA T L e) 0)) ∧ TxR s' L T ∧ Fr rT s s' := by
  obtain ⟨s', a, b0, b1, b2, b4, b3⟩ := r_st0 (N := N) hN1 hL hT N e s (by omega) he hX h17
  have ea : a = tkA T L e := b0
  subst ea
  refine ⟨s', b1, b2, fun w => ?_, TxR_fr hX b3, b3⟩
  unfold tkK at w
  by_cases c : tkA T L e < L
  · rw [if_pos c] at w
    exact b4 c w
  · rw [if_neg c] at w
    omega
end TU
