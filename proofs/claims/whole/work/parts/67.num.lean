/- needs: 66.rstep -/
/-! a number's worth, both sides -/
def vN (T : Nat → Nat) : Nat → Nat → Nat → Nat
  | 0, _, x => x
  | f + 1, p, x => vN T f (p + 1) (10 * x + T p - 48)
theorem vN_s (T : Nat → Nat) (f p x : Nat) : vN T (f + 1) p x = vN T f (p + 1) (10 * x + T p - 48) := rfl
theorem cby_d : ∀ v, v < 256 → kdN v = 2 → cby v = nI v := by decide +kernel
section NU
variable {N : Nat} {s : sg} {L : Nat} {T : Nat → Nat}
theorem c_num7 {k a e : Nat} (hL : L ≤ 700) (hT : ∀ j, j < L → T j < 256) (hX : TxC s L T) (hk : TkC s k a e) (he : e ≤ L) (h4 : e ≤ a + 4) (hd : ∀ j, a ≤ j → j < e → kdN (T j) = 2) : ∀ (f i x : Nat), e - i < f → a ≤ i → i ≤ e → lX10_number_7 N f 35 (nI x) (nI i) (mk s) = some (.inl (nI (vN T (e - i) i x)), mk s) := by
  intro f
  induction f with
  | zero => intro i x hf; omega
  | succ f ih =>
    intro i x hf hai hie
    show bX10_number_7 N (lX10_number_7 N f) 35 (nI x) (nI i) (mk s) = _
    unfold bX10_number_7 bX10_number_46
    rw [gI10 4 rfl, ob_s, hk.2.2]
    by_cases c : e ≤ i
    · rw [if_pos (nI_le c (by omega)), show e - i = 0 by omega]
      rfl
    · obtain ⟨g, hg, hg2⟩ := sub1 (show i < e by omega)
      have hdi := hd i hai (by omega)
      have hd2 := kd_2 (T i) (hT i (by omega)) hdi
      have e4 : nI a + (4 : Int32) = nI (a + 4) := nI_add a 4
      have ev : ((nI x * (10 : Int32)) + nI (T i)) - (48 : Int32) = nI (10 * x + T i - 48) := by
        rw [show nI x * (10 : Int32) = nI (x * 10) from nI_mul x 10, nI_add, show nI (x * 10 + T i) - (48 : Int32) = nI (x * 10 + T i - 48) from nI_sub (b := 48) (by omega), Nat.mul_comm x 10]
      rw [if_neg (nI_ge (by omega) (by omega)), gI10 1 rfl, ob_s, hk.2.1, e4, if_neg (nI_ge (by omega) (by omega)), gR10, ob_s, aB36 (by omega), ob_s, hX.2 i (by omega), cby_d (T i) (hT i (by omega)) hdi, ev, nI_1, hg, vN_s, ih (i + 1) _ (by omega) (by omega) (by omega), hg2]
theorem c_number {k a e : Nat} (hN1 : 1000 ≤ N) (hL : L ≤ 700) (hT : ∀ j, j < L → T j < 256) (hX : TxC s L T) (hk : TkC s k a e) (hae : a ≤ e) (he : e ≤ L) (h4 : e ≤ a + 4) (hd : ∀ j, a ≤ j → j < e → kdN (T j) = 2) : fX10_number N 35 (mk s) = some (.inl (nI (vN T (e - a) a 0)), mk s) := by
  unfold fX10_number bX10_number_0
  rw [gI10 1 rfl, ob_s, hk.2.1]
  exact c_num7 hL hT hX hk he h4 hd N a 0 (by omega) (Nat.le_refl _) hae
end NU
