/- needs: 23.mcopy -/
theorem dv_half {n : Nat} (h : 2 * n < 2 ^ 31) : dvI (nI (2 * n)) 2 = some (nI n) := by
  have h9 := dv_nI (a := 2 * n) (b := 2) h (by omega) (by omega)
  rw [Nat.mul_div_cancel_left n (by omega)] at h9
  exact h9
section MH
variable {N : Nat} {s : sg}
theorem m_half2 {a n : Nat} (ha : kc a = 20) (hn : kn a = 2 * n) (hn2 : n ≤ 700) : ∀ (f i : Nat), n - i < f → i ≤ n → lX12_takeHalf_2 N f a (nI i) (mk (sA s a (fun j => if j < i then s.1 a (n + j) else s.1 a j))) = some (.inl (), mk (sA s a (fun j => if j < n then s.1 a (n + j) else s.1 a j))) := by
  intro f
  induction f with
  | zero => intro i h; omega
  | succ f ih =>
    intro i hf hi
    show bX12_takeHalf_2 N (lX12_takeHalf_2 N f) a (nI i) _ = _
    unfold bX12_takeHalf_2
    have hd : dvI (nI (2 * n)) 2 = some (nI n) := dv_half (by omega)
    have hl : aN (mk (sA s a (fun j => if j < i then s.1 a (n + j) else s.1 a j))) a = some (nI (2 * n)) := by rw [aN_k (Or.inl ha), hn, nI]
    rw [hl, Option.bind_some, hd, Option.bind_some]
    by_cases h1 : n ≤ i
    · rw [if_pos (nI_le h1 (by omega)), show i = n by omega]
    · have i1 : inB (nI (n + i)) (2 * n) = true := inA_nI (by omega) (by omega)
      have i2 : inB (nI i) (2 * n) = true := inA_nI (by omega) (by omega)
      rw [if_neg (nI_ge (by omega) (by omega)), Option.bind_some, hd, Option.bind_some, nI_add]
      simp (decide := true) only [Option.bind_some, cS_inl, cS_inr, gI_k, gR_k, pI_k, pR_k, cV_k, aI_k, tI_k, rZ_0, rZ_1, rZ_i, ha, hn, i1, i2, nI_clamp (show n + i < 2 ^ 31 by omega), nI_clamp (show i < 2 ^ 31 by omega), sA_at, sA_up, nI_1]
      rw [if_neg (by omega)]
      have e : (fun j' => if j' = i then s.1 a (n + i) else if j' < i then s.1 a (n + j') else s.1 a j') = (fun j => if j < i + 1 then s.1 a (n + j) else s.1 a j) := by
        funext j
        by_cases h2 : j = i
        · subst h2; simp
        · by_cases h3 : j < i
          · simp [h2, h3, show j < i + 1 by omega]
          · simp [h2, h3, show ¬ j < i + 1 by omega]
      rw [e]
      exact ih (i + 1) (by omega) (by omega)
theorem m_takeHalf {a n : Nat} (hN : 1000 ≤ N) (ha : kc a = 20) (hn : kn a = 2 * n) (hn2 : n ≤ 700) : fX12_takeHalf N a (mk s) = some (.inl (), mk (sA s a (fun j => if j < n then s.1 a (n + j) else s.1 a j))) := by
  unfold fX12_takeHalf bX12_takeHalf_0
  have h := m_half2 (N := N) (s := s) ha hn hn2 N 0 (by omega) (by omega)
  simp only [Nat.not_lt_zero, if_false] at h
  rw [show (fun j => s.1 a j) = s.1 a from rfl, sA_id] at h
  exact h
end MH
