/- needs: 67.num -/
/-! a short number is read on without its cap -/
theorem nmf_v {T : Nat → Nat} {L : Nat} (hT : ∀ j, j < L → T j < 256) : ∀ (f p x : Nat), p ≤ L → (x + 1) * 10 ^ (rnk T L 2 f p - p) ≤ 100000 → nmf T L f p x = vN T (rnk T L 2 f p - p) p x
  | 0, p, x, hp, hb => by
    show x = vN T (p - p) p x
    rw [show p - p = 0 by omega]
    rfl
  | f + 1, p, x, hp, hb => by
    rw [rnk_s] at hb ⊢
    rw [nmf_s]
    by_cases c : p < L ∧ kdN (T p) = 2
    · rw [if_pos c] at hb ⊢
      rw [if_pos c]
      have hd := kd_2 (T p) (hT p c.1) c.2
      have hle := rnk_le T L 2 f (p + 1) (by omega)
      obtain ⟨g, hg, hg2⟩ := sub1 (show p < rnk T L 2 f (p + 1) by omega)
      rw [hg] at hb ⊢
      have h10 : (x + 1) * 10 ^ (g + 1) = (10 * (x + 1)) * 10 ^ g := by rw [Nat.pow_succ, Nat.mul_comm (10 ^ g) 10, ← Nat.mul_assoc, Nat.mul_comm (x + 1) 10]
      rw [h10] at hb
      have h1 : 1 ≤ 10 ^ g := Nat.pow_pos (by omega)
      have hx : 10 * (x + 1) ≤ 100000 := Nat.le_trans (Nat.le_mul_of_pos_right _ h1) hb
      have hy : 10 * x + T p - 48 + 1 ≤ 10 * (x + 1) := by omega
      have hb2 : (10 * x + T p - 48 + 1) * 10 ^ g ≤ 100000 := Nat.le_trans (Nat.mul_le_mul_right _ hy) hb
      rw [show min 100000 (10 * x + T p - 48) = 10 * x + T p - 48 by omega, vN_s]
      have := nmf_v hT f (p + 1) (10 * x + T p - 48) (by omega) (by rw [hg2]; exact hb2)
      rw [hg2] at this
      exact this
    · rw [if_neg c] at hb ⊢
      rw [if_neg c, show p - p = 0 by omega]
      rfl
