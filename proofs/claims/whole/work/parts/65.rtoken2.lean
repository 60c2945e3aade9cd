/- needs: 64.rtoken -/
/-! the reference steps on: numbers, and whole -/
section TS
variable {N : Nat} {s : sg} {L e : Nat} {T : Nat → Nat}
theorem r_st123 {a : Nat} (hL : L ≤ 700) (hT : ∀ j, j < L → T j < 256) : ∀ (f p x : Nat) (s : sg), L - p < f → p ≤ L → x ≤ 100000 → TxR s L T → s.1 419 17 = nI p → s.1 419 21 = nI a → s.1 419 20 = nI x → ∃ s', lX12_stepOn_123 N f 419 (mk s) = some (.inl (), mk s') ∧ TkR s' 2 a (rnk T L 2 (L - p) p) ∧ s'.1 419 20 = nI (nmf T L (L - p) p x) ∧ Fr rT s s' := by
  intro f
  induction f with
  | zero => intro p x s hf; omega
  | succ f ih =>
    intro p x s hf hp hx hX h17 h21 h20
    show ∃ s', bX12_stepOn_123 N (lX12_stepOn_123 N f) 419 (mk s) = _ ∧ _
    unfold bX12_stepOn_123 bX12_stepOn_178
    have stop : ∃ s', (Option.bind (pI (mk s) 419 12 19 (2 : Int32)) fun c1 => bX12_stepOn_212 N 419 c1) = some (.inl (), mk s') ∧ TkR s' 2 a p ∧ s'.1 419 20 = nI x ∧ Fr rT s s' := by
      have f1 : Fr rT s (sI s 419 19 2) := Fr_sI (by unfold rT; omega)
      obtain ⟨s', b1, b2, b4, b3⟩ := r_st212 (N := N) (s := sI s 419 19 2) (a := a) (e := p) (k := 2) (by rw [sI_1, if_neg (by omega)]; exact h17) (by rw [sI_1, if_neg (by omega)]; exact h21) (sI_at _ _ _ _)
      refine ⟨s', ?_, b2, ?_, Fr_t f1 b3⟩
      · rw [pI12 19 rfl, ob_s]
        exact b1
      · rw [b4, sI_1, if_neg (by omega)]; exact h20
    rw [gI12 17 rfl, ob_s, h17, cV12]
    by_cases c : L ≤ p
    · rw [r_byteE hX c (by omega), cS_l, r_isDg, cS_l, if_pos (show iDg (-1) = 0 by decide), show L - p = 0 by omega]
      exact stop
    · obtain ⟨g, hg, hg2⟩ := sub1 (show p < L by omega)
      obtain ⟨_, q1, _⟩ := ik_e (T p) (hT p (by omega))
      rw [r_byte hL hX (show p < L by omega), cS_l, r_isDg, cS_l, q1, hg, rnk_s, nmf_s]
      by_cases c2 : kdN (T p) = 2
      · have hd := kd_2 (T p) (hT p (by omega)) c2
        have ev : mnI (100000 : Int32) ((((10 : Int32) * nI x) + nI (T p)) - (48 : Int32)) = nI (min 100000 (10 * x + T p - 48)) := by
          rw [show (10 : Int32) * nI x = nI (10 * x) from nI_mul 10 x, nI_add, show nI (10 * x + T p) - (48 : Int32) = nI (10 * x + T p - 48) from nI_sub (b := 48) (by omega)]
          exact mn_nI (a := 100000) (by omega) (by omega)
        rw [if_neg (show ¬ sk_i (decide (kdN (T p) = 2)) = 0 by rw [decide_eq_true c2]; decide), if_pos ⟨by omega, c2⟩, if_pos ⟨by omega, c2⟩, gI12 20 rfl, ob_s, h20, gI12 17 rfl, ob_s, h17, cV12, r_byte hL hX (show p < L by omega), cS_l, ev, pI12 20 rfl, ob_s]
        generalize hy : min 100000 (10 * x + T p - 48) = y
        have e17 : (sI s 419 20 (nI y)).1 419 17 = nI p := by rw [sI_1, if_neg (by omega)]; exact h17
        rw [gI12 17 rfl, ob_s, e17, pI12 17 rfl, ob_s, nI_1]
        have f1 : Fr rT s (sI (sI s 419 20 (nI y)) 419 17 (nI (p + 1))) := Fr_t (Fr_sI (by unfold rT; omega)) (Fr_sI (by unfold rT; omega))
        obtain ⟨s', b1, b2, b4, b3⟩ := ih (p + 1) y (sI (sI s 419 20 (nI y)) 419 17 (nI (p + 1))) (by omega) (by omega) (by omega) (TxR_fr hX f1) (sI_at _ _ _ _) (by rw [sI_1, if_neg (by omega), sI_1, if_neg (by omega)]; exact h21) (by rw [sI_1, if_neg (by omega), sI_at])
        rw [hg2] at b2 b4
        exact ⟨s', b1, b2, b4, Fr_t f1 b3⟩
      · rw [if_pos (show sk_i (decide (kdN (T p) = 2)) = 0 by rw [decide_eq_false c2]; decide), if_neg (fun w => c2 w.2), if_neg (fun w => c2 w.2)]
        exact stop
end TS
