/- needs: 62.token -/
/-! the class steps on to the next token -/
def TkC (s : sg) (k a e : Nat) : Prop := s.1 35 0 = nI k ∧ s.1 35 1 = nI a ∧ s.1 35 4 = nI e
section TL
variable {N : Nat} {s : sg} {L e : Nat} {T : Nat → Nat}
theorem c_adv88 {a k : Nat} (hN1 : 1000 ≤ N) (hL : L ≤ 700) (hT : ∀ j, j < L → T j < 256) (hX : TxC s L T) (ha : a ≤ L) (h1 : s.1 35 1 = nI a) (hk : k = if a < L then kdN (T a) else 0) : ∃ s', bX10_advances_88 N 35 35 (nI k) (mk s) = some (.inl (), mk s') ∧ TkC s' k a (if a < L then (if kdN (T a) = 1 ∨ kdN (T a) = 2 then rnk T L (kdN (T a)) (L - (a + 1)) (a + 1) else a + 1) else L) ∧ Fr (fun x j => x = 35 ∧ (j = 0 ∨ j = 1 ∨ j = 4)) s s' := by
  have hk4 : k ≤ 4 := by
    have := kdN_le (T a)
    rw [hk]
    split <;> omega
  have f1 : Fr (fun x j => x = 35 ∧ (j = 0 ∨ j = 1 ∨ j = 4)) s (sI s 35 0 (nI k)) := Fr_sI (by omega)
  have k1 : (sI s 35 0 (nI k)).1 35 1 = nI a := by rw [sI_1, if_neg (by omega)]; exact h1
  have k3 : (sI s 35 0 (nI k)).1 35 3 = nI L := by rw [sI_1, if_neg (by omega)]; exact hX.1
  have emn : mnI (nI a + 1) (nI L) = nI (min (a + 1) L) := by rw [nI_1, mn_nI (by omega) (by omega)]
  generalize hs2 : sI (sI s 35 0 (nI k)) 35 4 (nI (min (a + 1) L)) = s2
  have f2 : Fr (fun x j => x = 35 ∧ (j = 0 ∨ j = 1 ∨ j = 4)) s s2 := by
    rw [← hs2]; exact Fr_t f1 (Fr_sI (by omega))
  have e0 : s2.1 35 0 = nI k := by rw [← hs2, sI_1, if_neg (by omega), sI_at]
  have e1 : s2.1 35 1 = nI a := by rw [← hs2, sI_1, if_neg (by omega)]; exact k1
  have e4 : s2.1 35 4 = nI (min (a + 1) L) := by rw [← hs2, sI_at]
  unfold bX10_advances_88
  rw [pI10 0 rfl, ob_s, gI10 1 rfl, ob_s, gI10 3 rfl, ob_s, k1, k3, emn, pI10 4 rfl, ob_s, hs2, gI10 0 rfl, ob_s, e0, ob_s]
  by_cases c : a < L
  · rw [if_pos c] at hk
    rw [if_pos c]
    rw [show min (a + 1) L = a + 1 by omega] at e4
    obtain ⟨s3, b1, b2, b3⟩ := c_adv124 (N := N) (k := k) hL hT hk4 N (a + 1) s2 (by omega) (by omega) (TxC_fr hX f2) e4 e0
    have r3 : TkC s3 k a (rnk T L k (L - (a + 1)) (a + 1)) := ⟨(b3.1 _ _ (by omega)).trans e0, (b3.1 _ _ (by omega)).trans e1, b2⟩
    have f3 : Fr (fun x j => x = 35 ∧ (j = 0 ∨ j = 1 ∨ j = 4)) s s3 := Fr_t f2 (Fr_m b3 (by intros; omega))
    by_cases g1 : k = 1
    · rw [if_pos (show nI k = (1 : Int32) by rw [g1]; rfl), if_pos (Or.inl (hk ▸ g1)), ← hk]
      exact ⟨s3, b1, r3, f3⟩
    · rw [if_neg (show ¬ nI k = (1 : Int32) from fun q => g1 ((nI_inj (b := 1) (by omega) (by omega)).mp q))]
      by_cases g2 : k = 2
      · rw [if_neg (fun q => q (show nI k = (2 : Int32) by rw [g2]; rfl)), if_pos (Or.inr (hk ▸ g2)), ← hk]
        exact ⟨s3, b1, r3, f3⟩
      · rw [if_pos (show ¬ nI k = (2 : Int32) from fun q => g2 ((nI_inj (b := 2) (by omega) (by omega)).mp q)), ← hk, if_neg (by omega)]
        exact ⟨s2, rfl, ⟨e0, e1, e4⟩, f2⟩
  · rw [if_neg c] at hk
    rw [if_neg c]
    rw [show min (a + 1) L = L by omega] at e4
    rw [hk] at e0 ⊢
    rw [if_neg (by decide), if_pos (by decide)]
    exact ⟨s2, rfl, ⟨e0, e1, e4⟩, f2⟩
theorem c_adv60 {a : Nat} (hN1 : 1000 ≤ N) (hL : L ≤ 700) (hT : ∀ j, j < L → T j < 256) (hX : TxC s L T) (ha : a ≤ L) (h1 : s.1 35 1 = nI a) : ∃ s', bX10_advances_60 N 35 (mk s) = some (.inl (), mk s') ∧ TkC s' (if a < L then kdN (T a) else 0) a (if a < L then (if kdN (T a) = 1 ∨ kdN (T a) = 2 then rnk T L (kdN (T a)) (L - (a + 1)) (a + 1) else a + 1) else L) ∧ Fr (fun x j => x = 35 ∧ (j = 0 ∨ j = 1 ∨ j = 4)) s s' := by
  obtain ⟨s', b1, b2, b3⟩ := c_adv88 (N := N) hN1 hL hT hX ha h1 rfl
  refine ⟨s', ?_, b2, b3⟩
  unfold bX10_advances_60
  rw [gI10 1 rfl, ob_s, gI10 3 rfl, ob_s, h1, hX.1]
  by_cases c : a < L
  · rw [if_pos c] at b1
    rw [if_neg (nI_ge c (by omega)), gR10, ob_s, ob_s, aB36 (by omega), ob_s, hX.2 a c, c_kindOf (hT a c), cS_l]
    exact b1
  · rw [if_neg c] at b1
    rw [if_pos (nI_le (by omega) (by omega))]
    exact b1
theorem c_adv8 (hN1 : 1000 ≤ N) (hL : L ≤ 700) (hT : ∀ j, j < L → T j < 256) : ∀ (f p : Nat) (s : sg), L - p < f → p ≤ L → TxC s L T → s.1 35 1 = nI p → ∃ s' a, a = skp T L (L - p) p ∧ lX10_advances_8 N f 35 (mk s) = some (.inl (), mk s') ∧ TkC s' (if a < L then kdN (T a) else 0) a (if a < L then (if kdN (T a) = 1 ∨ kdN (T a) = 2 then rnk T L (kdN (T a)) (L - (a + 1)) (a + 1) else a + 1) else L) ∧ Fr (fun x j => x = 35 ∧ (j = 0 ∨ j = 1 ∨ j = 4)) s s' := by
  intro f
  induction f with
  | zero => intro p s hf; omega
  | succ f ih =>
    intro p s hf hp hX h1
    show ∃ s' a, _ ∧ bX10_advances_8 N (lX10_advances_8 N f) 35 (mk s) = _ ∧ _
    unfold bX10_advances_8 bX10_advances_47
    rw [gI10 1 rfl, ob_s, gI10 3 rfl, ob_s, h1, hX.1]
    by_cases c : L ≤ p
    · rw [if_pos (nI_le c (by omega)), show L - p = 0 by omega]
      obtain ⟨s', b1, b2, b3⟩ := c_adv60 (N := N) hN1 hL hT hX hp h1
      exact ⟨s', p, rfl, b1, b2, b3⟩
    · rw [if_neg (nI_ge (by omega) (by omega)), gR10, ob_s, ob_s, aB36 (by omega), ob_s, hX.2 p (by omega), ob_s, ob_s, ob_s, aB36 (by omega), ob_s, hX.2 p (by omega), pI10 1 rfl, ob_s, nI_1]
      obtain ⟨g, hg, hg2⟩ := sub1 (show p < L by omega)
      obtain ⟨_, q1, q2⟩ := kC_e (T p) (hT p (by omega))
      rw [hg, skp_s]
      have f1 : Fr (fun x j => x = 35 ∧ (j = 0 ∨ j = 1 ∨ j = 4)) s (sI s 35 1 (nI (p + 1))) := Fr_sI (by omega)
      obtain ⟨s', a, b0, b1, b2, b3⟩ := ih (p + 1) (sI s 35 1 (nI (p + 1))) (by omega) (by omega) (TxC_fr hX f1) (sI_at _ _ _ _)
      rw [hg2] at b0
      by_cases c1 : T p = 32
      · rw [if_pos (q1.mpr c1), if_pos ⟨by omega, Or.inl c1⟩]
        exact ⟨s', a, b0, b1, b2, Fr_t f1 b3⟩
      · rw [if_neg (fun w => c1 (q1.mp w))]
        by_cases c2 : T p = 10
        · rw [if_pos (show p < L ∧ (T p = 32 ∨ T p = 10) from ⟨by omega, Or.inr c2⟩), if_neg (show ¬ ¬ cby (T p) = 10 from fun w => w (q2.mpr c2))]
          exact ⟨s', a, b0, b1, b2, Fr_t f1 b3⟩
        · rw [if_pos (fun w => c2 (q2.mp w)), if_neg (by omega)]
          obtain ⟨s', b1, b2, b3⟩ := c_adv60 (N := N) hN1 hL hT hX hp h1
          exact ⟨s', p, rfl, b1, b2, b3⟩
theorem c_adv (hN1 : 1000 ≤ N) (hL : L ≤ 700) (hT : ∀ j, j < L → T j < 256) (hX : TxC s L T) (he : e ≤ L) (h4 : s.1 35 4 = nI e) : ∃ s', fX10_advances N 35 (mk s) = some (.inl (), mk s') ∧ TkC s' (tkK T L e) (tkA T L e) (tkE T L e) ∧ TxC s' L T ∧ Fr (fun x j => x = 35 ∧ (j = 0 ∨ j = 1 ∨ j = 4)) s s' := by
  have f1 : Fr (fun x j => x = 35 ∧ (j = 0 ∨ j = 1 ∨ j = 4)) s (sI s 35 1 (nI e)) := Fr_sI (by omega)
  obtain ⟨s', a, b0, b1, b2, b3⟩ := c_adv8 (N := N) hN1 hL hT N e (sI s 35 1 (nI e)) (by omega) he (TxC_fr hX f1) (sI_at _ _ _ _)
  have ea : a = tkA T L e := b0
  subst ea
  refine ⟨s', ?_, b2, TxC_fr hX (Fr_t f1 b3), Fr_t f1 b3⟩
  unfold fX10_advances bX10_advances_0
  rw [gI10 4 rfl, ob_s, h4, pI10 1 rfl, ob_s]
  exact b1
end TL
