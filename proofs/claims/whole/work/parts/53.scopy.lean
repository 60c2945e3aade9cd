/- needs: 52.scene -/
/-! a scene is copied -/
theorem nz_i (b : Bool) : vp_nar .boolean (sk_i b) = sk_i b := by cases b <;> decide
def cD (a x j : Nat) : Prop := (x = a ∧ (j = 2 ∨ j = 6)) ∨ (a + 1 ≤ x ∧ x ≤ a + 4) ∨ (a + 6 ≤ x ∧ x < a + 170)
section SY
variable {N : Nat} {s : sg} {K : Nat → Bool} {st : Nat → Int32} {c a na ns : Nat} {hs : Nat → Nat → Int32} {hk : Nat → Nat → Bool} {sh sm : Nat → Nat} {sv : Nat → Bool}
theorem SnC_fr {Q : Nat → Nat → Prop} {s' : sg} (h : SnC s c ns sh sm sv) (f : Fr Q s s') (h6 : ¬ Q c 6) (hq : ∀ x j, c + 6 ≤ x → x ≤ c + 8 → ¬ Q x j) : SnC s' c ns sh sm sv :=
  ⟨(f.1 _ _ h6).trans h.1, fun i hi => ⟨(f.1 _ _ (hq _ _ (by omega) (by omega))).trans (h.2 i hi).1, (f.1 _ _ (hq _ _ (by omega) (by omega))).trans (h.2 i hi).2.1, (f.1 _ _ (hq _ _ (by omega) (by omega))).trans (h.2 i hi).2.2⟩⟩
theorem c_cp21 (hc : scA c) (ha : scA a) (hac : c + 170 ≤ a ∨ a + 170 ≤ c) (hna : na ≤ 40) (hz : ∀ i, i < na → bz (hs i)) : ∀ (f i : Nat) (s : sg), na - i < f → i ≤ na → Pm s c → Pm s a → HsC s c na hs hk → s.1 a 2 = nI na → (∀ j, j < i → SAt s (s.2.1 (a + 5) j) (hs j) (hk j)) → ∃ s', lX5_copyFrom_21 N f a c (nI i) (mk s) = bX5_copyFrom_50 N a c (mk s') ∧ HsC s' a na hs hk ∧ Fr (fun x _ => a + 10 ≤ x ∧ x < a + 170) s s' := by
  obtain ⟨o0, o1, o2, o3, _⟩ := scA_O hc
  obtain ⟨p0, p1, p2, p3, _⟩ := scA_O ha
  intro f
  induction f with
  | zero => intro i s hf; omega
  | succ f ih =>
    intro i s hf hi hpc hpa hh e2 hd
    show ∃ s', bX5_copyFrom_21 N (lX5_copyFrom_21 N f) a c (nI i) (mk s) = _ ∧ _
    unfold bX5_copyFrom_21
    simp (decide := true) only [ob_s, cS_l, cS_r, gI_k, gR_k, pI_k, pR_k, cV_k, aI_k, tI_k, rZ_0, rZ_1, rZ_i, aB_k, tB_k, aZ_k, tZ_k, aR_24, aR_25, aR_27, rf_0_6, rf_0_7, rf_0_8, rf_0_9, rf_1_0, rf_1_1, rf_2_2, rf_3_6, rf_3_7, rf_3_8, rf_4_1, rf_4_3, rf_4_4, rf_5_0, rf_5_1, rf_5_3, rf_5_4, rf_5_5, rf_5_7, rf_6_4, rf_6_9, rf_6_10, rf_6_11, rf_6_12, rf_6_5, rf_8_0, rf_9_7, rf_9_8, rf_10_2, rf_11_0, rf_11_5, rf_11_6, rf_11_7, rf_11_9, rf_11_10, rf_11_11, rf_11_12, rf_24, rf_27, p0, e2]
    by_cases h : na ≤ i
    · rw [if_pos (nI_le h (by omega))]
      exact ⟨s, rfl, ⟨e2, fun j hj => hd j (by omega)⟩, Fr_r _ _⟩
    · rw [if_neg (nI_ge (by omega) (by omega))]
      have i1 : inB (nI i) (kn (c + 5)) = true := by rw [o3]; exact inA_nI (by omega) (by omega)
      have i2 : inB (nI i) (kn (a + 5)) = true := by rw [p3]; exact inA_nI (by omega) (by omega)
      have hb := hpa.1 i (by omega)
      have hb2 := bf_le hb
      have hbc := hpc.1 i (by omega)
      have hbc2 := bf_le hbc
      obtain ⟨s1, a1, a2, a3⟩ := c_stCopy (N := N) (bf_O ha hb) (bf_O hc hbc) (by omega) (hh.2 i (by omega)) (hz i (by omega))
      simp (decide := true) only [ob_s, cS_l, cS_r, gI_k, gR_k, pI_k, pR_k, cV_k, aI_k, tI_k, rZ_0, rZ_1, rZ_i, aB_k, tB_k, aZ_k, tZ_k, aR_24, aR_25, aR_27, rf_0_6, rf_0_7, rf_0_8, rf_0_9, rf_1_0, rf_1_1, rf_2_2, rf_3_6, rf_3_7, rf_3_8, rf_4_1, rf_4_3, rf_4_4, rf_5_0, rf_5_1, rf_5_3, rf_5_4, rf_5_5, rf_5_7, rf_6_4, rf_6_9, rf_6_10, rf_6_11, rf_6_12, rf_6_5, rf_8_0, rf_9_7, rf_9_8, rf_10_2, rf_11_0, rf_11_5, rf_11_6, rf_11_7, rf_11_9, rf_11_10, rf_11_11, rf_11_12, rf_24, rf_27, o0, p0, o2, p2, i1, i2, nI_clamp (show i < 2 ^ 31 by omega), (bf_O ha hb).1, a1, nI_1]
      have f1 : Fr (fun x _ => a + 10 ≤ x ∧ x < a + 170) s s1 := Fr_m a3 (fun x j g => by unfold stD at g; omega)
      obtain ⟨s2, b1, b2, b3⟩ := ih (i + 1) s1 (by omega) (by omega) (Pm_fr hpc f1 (by intros; omega)) (Pm_fr hpa f1 (by intros; omega)) (HsC_fr hh hpc hna f1 (by intros; omega) (by omega) (by intros; omega)) ((f1.1 _ _ (by omega)).trans e2) (fun j hj => by
        have er : s1.2.1 (a + 5) j = s.2.1 (a + 5) j := f1.2.1 _ _ (by omega)
        rw [er]
        by_cases e : j = i
        · rw [e]; exact a2
        · have hbj := hpa.1 j (by omega)
          have hne := bf_ne hbj hb (fun g => e (hpa.2 _ _ (by omega) (by omega) g))
          exact SAt_fr (hd j (by omega)) a3 (fun x y g1 g2 g => by unfold stD at g; omega))
      exact ⟨s2, b1, b2, Fr_t f1 b3⟩
theorem c_cp60 (hc : scA c) (ha : scA a) (hac : c + 170 ≤ a ∨ a + 170 ≤ c) (hns : ns ≤ 8) : ∀ (f i : Nat) (s : sg), ns - i < f → i ≤ ns → SnC s c ns sh sm sv → s.1 a 6 = nI ns → (∀ j, j < i → s.1 (a + 6) j = nI (sh j) ∧ s.1 (a + 7) j = nI (sm j) ∧ s.1 (a + 8) j = sk_i (sv j)) → ∃ s', lX5_copyFrom_60 N f a c (nI i) (mk s) = bX5_copyFrom_110 N a c (mk s') ∧ SnC s' a ns sh sm sv ∧ Fr (fun x _ => a + 6 ≤ x ∧ x ≤ a + 8) s s' := by
  obtain ⟨o0, o1, o2, o3, o4, o5, o6, o7, o8, o9, _⟩ := scA_O hc
  obtain ⟨p0, p1, p2, p3, p4, p5, p6, p7, p8, p9, _⟩ := scA_O ha
  intro f
  induction f with
  | zero => intro i s hf; omega
  | succ f ih =>
    intro i s hf hi hh e2 hd
    show ∃ s', bX5_copyFrom_60 N (lX5_copyFrom_60 N f) a c (nI i) (mk s) = _ ∧ _
    unfold bX5_copyFrom_60
    simp (decide := true) only [ob_s, cS_l, cS_r, gI_k, gR_k, pI_k, pR_k, cV_k, aI_k, tI_k, rZ_0, rZ_1, rZ_i, aB_k, tB_k, aZ_k, tZ_k, aR_24, aR_25, aR_27, rf_0_6, rf_0_7, rf_0_8, rf_0_9, rf_1_0, rf_1_1, rf_2_2, rf_3_6, rf_3_7, rf_3_8, rf_4_1, rf_4_3, rf_4_4, rf_5_0, rf_5_1, rf_5_3, rf_5_4, rf_5_5, rf_5_7, rf_6_4, rf_6_9, rf_6_10, rf_6_11, rf_6_12, rf_6_5, rf_8_0, rf_9_7, rf_9_8, rf_10_2, rf_11_0, rf_11_5, rf_11_6, rf_11_7, rf_11_9, rf_11_10, rf_11_11, rf_11_12, rf_24, rf_27, p0, e2]
    by_cases h : ns ≤ i
    · rw [if_pos (nI_le h (by omega))]
      exact ⟨s, rfl, ⟨e2, fun j hj => hd j (by omega)⟩, Fr_r _ _⟩
    · rw [if_neg (nI_ge (by omega) (by omega))]
      have i8 : inB (nI i) 8 = true := inA_nI (by omega) (by omega)
      obtain ⟨h1, h2, h3⟩ := hh.2 i (by omega)
      have h2' : (sI s (a + 6) i (nI (sh i))).1 (c + 7) i = nI (sm i) := by rw [sI_1, if_neg (by omega)]; exact h2
      have h3' : (sI (sI s (a + 6) i (nI (sh i))) (a + 7) i (nI (sm i))).1 (c + 8) i = sk_i (sv i) := by rw [sI_1, if_neg (by omega), sI_1, if_neg (by omega)]; exact h3
      simp (decide := true) only [ob_s, cS_l, cS_r, gI_k, gR_k, pI_k, pR_k, cV_k, aI_k, tI_k, rZ_0, rZ_1, rZ_i, aB_k, tB_k, aZ_k, tZ_k, aR_24, aR_25, aR_27, rf_0_6, rf_0_7, rf_0_8, rf_0_9, rf_1_0, rf_1_1, rf_2_2, rf_3_6, rf_3_7, rf_3_8, rf_4_1, rf_4_3, rf_4_4, rf_5_0, rf_5_1, rf_5_3, rf_5_4, rf_5_5, rf_5_7, rf_6_4, rf_6_9, rf_6_10, rf_6_11, rf_6_12, rf_6_5, rf_8_0, rf_9_7, rf_9_8, rf_10_2, rf_11_0, rf_11_5, rf_11_6, rf_11_7, rf_11_9, rf_11_10, rf_11_11, rf_11_12, rf_24, rf_27, o0, p0, o4, p4, o5, p5, o6, p6, o7, p7, o8, p8, o9, p9, i8, nI_clamp (show i < 2 ^ 31 by omega), h1, h2', h3', nz_i, nI_1]
      generalize hs1 : sI (sI (sI s (a + 6) i (nI (sh i))) (a + 7) i (nI (sm i))) (a + 8) i (sk_i (sv i)) = s1
      have f1 : Fr (fun x _ => a + 6 ≤ x ∧ x ≤ a + 8) s s1 := by
        rw [← hs1]
        exact Fr_t (Fr_t (Fr_sI (by omega)) (Fr_sI (by omega))) (Fr_sI (by omega))
      obtain ⟨s2, b1, b2, b3⟩ := ih (i + 1) s1 (by omega) (by omega) (SnC_fr hh f1 (by omega) (by intros; omega)) ((f1.1 _ _ (by omega)).trans e2) (fun j hj => by
        rw [← hs1]
        by_cases e : j = i
        · subst e
          refine ⟨?_, ?_, ?_⟩
          · rw [sI_1, if_neg (by omega), sI_1, if_neg (by omega), sI_at]
          · rw [sI_1, if_neg (by omega), sI_at]
          · rw [sI_at]
        · obtain ⟨g1, g2, g3⟩ := hd j (by omega)
          refine ⟨?_, ?_, ?_⟩
          · rw [sI_1, if_neg (by omega), sI_1, if_neg (by omega), sI_1, if_neg (by omega)]; exact g1
          · rw [sI_1, if_neg (by omega), sI_1, if_neg (by omega), sI_1, if_neg (by omega)]; exact g2
          · rw [sI_1, if_neg (by omega), sI_1, if_neg (by omega), sI_1, if_neg (by omega)]; exact g3)
      exact ⟨s2, b1, b2, Fr_t f1 b3⟩
theorem c_scopy (hN1 : 1000 ≤ N) (hc : scA c) (ha : scA a) (hac : c + 170 ≤ a ∨ a + 170 ≤ c) (hna : na ≤ 40) (hz : ∀ i, i < na → bz (hs i)) (hz0 : bz st) (hns : ns ≤ 8) (hpc : Pm s c) (hpa : Pm s a) (hh : HsC s c na hs hk) (hS : SAt s (c + 1) st K) (hn : SnC s c ns sh sm sv) : ∃ s', fX5_copyFrom N a c (mk s) = some (.inl (), mk s') ∧ Pm s' a ∧ HsC s' a na hs hk ∧ SAt s' (a + 1) st K ∧ SnC s' a ns sh sm sv ∧ (∀ j, j < 3 → s'.1 (a + 9) j = s.1 (c + 9) j) ∧ Fr (cD a) s s' := by
  obtain ⟨o0, o1, o2, o3, o4, o5, o6, o7, o8, o9, o10, o11⟩ := scA_O hc
  obtain ⟨p0, p1, p2, p3, p4, p5, p6, p7, p8, p9, p10, p11⟩ := scA_O ha
  obtain ⟨s1, a1, a2, a3⟩ := c_stCopy (N := N) p1 o1 (by omega) hS hz0
  have e1 : s1.1 c 2 = nI na := (a3.1 _ _ (by unfold stD; omega)).trans hh.1
  have f1 : Fr (cD a) s s1 := Fr_m a3 (fun x j g => by unfold stD at g; unfold cD; omega)
  have f2 : Fr (fun x j => x = a ∧ j = 2) s1 (sI s1 a 2 (nI na)) := Fr_sI ⟨rfl, rfl⟩
  have f12 : Fr (cD a) s (sI s1 a 2 (nI na)) := Fr_t f1 (Fr_m f2 (fun x j g => by unfold cD; omega))
  obtain ⟨s3, b1, b2, b3⟩ := c_cp21 (N := N) (hs := hs) (hk := hk) hc ha hac hna hz N 0 (sI s1 a 2 (nI na)) (by omega) (by omega) (Pm_fr hpc f12 (fun j g => by unfold cD at g; omega)) (Pm_fr hpa f12 (fun j g => by unfold cD at g; omega)) (HsC_fr hh hpc hna f12 (fun j g => by unfold cD at g; omega) (fun g => by unfold cD at g; omega) (fun x j g1 g2 g => by unfold cD at g; omega)) (sI_at _ _ _ _) (fun j hj => by omega)
  have f3 : Fr (cD a) s s3 := Fr_t f12 (Fr_m b3 (fun x j g => by unfold cD; omega))
  have hn3 := SnC_fr hn f3 (fun g => by unfold cD at g; omega) (fun x j g1 g2 g => by unfold cD at g; omega)
  have f4 : Fr (fun x j => x = a ∧ j = 6) s3 (sI s3 a 6 (nI ns)) := Fr_sI ⟨rfl, rfl⟩
  obtain ⟨s5, d1, d2, d3⟩ := c_cp60 (N := N) (sh := sh) (sm := sm) (sv := sv) hc ha hac hns N 0 (sI s3 a 6 (nI ns)) (by omega) (by omega) (SnC_fr hn3 f4 (by omega) (by intros; omega)) (sI_at _ _ _ _) (fun j hj => by omega)
  have f5 : Fr (cD a) s s5 := Fr_t (Fr_t f3 (Fr_m f4 (fun x j g => by unfold cD; omega))) (Fr_m d3 (fun x j g => by unfold cD; omega))
  have cp : cpA .int (mk s5) (c + 9) 0 (a + 9) 0 (Int32.ofNat 3) = some (mk (sA s5 (a + 9) (va_cpy (s5.1 (c + 9)) (s5.1 (a + 9)) 0 0 3))) := cpA_mk (s := s5) (sp := 0) (dp := 0) (m := Int32.ofNat 3) (kd_p o10 o11) (kd_p p10 p11) (Or.inl ⟨rfl, rfl⟩) (by decide) (by decide) (by decide) (by decide) (by decide) (fun _ _ => rfl)
  have f6 : Fr (fun x _ => x = a + 9) s5 (sA s5 (a + 9) (va_cpy (s5.1 (c + 9)) (s5.1 (a + 9)) 0 0 3)) := Fr_sA (fun j => rfl)
  have f16 : Fr (cD a) s (sA s5 (a + 9) (va_cpy (s5.1 (c + 9)) (s5.1 (a + 9)) 0 0 3)) := Fr_t f5 (Fr_m f6 (fun x j g => by unfold cD; omega))
  have hp5 : Pm s3 a := Pm_fr hpa f3 (fun j g => by unfold cD at g; omega)
  have hH5 := HsC_fr b2 hp5 hna (Fr_t (Fr_m f4 (fun x j g => show (x = a ∧ j = 6) ∨ (a + 6 ≤ x ∧ x ≤ a + 9) by omega)) (Fr_t (Fr_m d3 (fun x j g => by omega)) (Fr_m f6 (fun x j g => by omega)))) (by intros; omega) (by omega) (by intros; omega)
  have hS6 : SAt (sA s5 (a + 9) (va_cpy (s5.1 (c + 9)) (s5.1 (a + 9)) 0 0 3)) (a + 1) st K := SAt_fr a2 (Fr_t (Fr_m f2 (fun x j g => show x = a ∨ a + 6 ≤ x by omega)) (Fr_t (Fr_m b3 (fun x j g => by omega)) (Fr_t (Fr_m f4 (fun x j g => by omega)) (Fr_t (Fr_m d3 (fun x j g => by omega)) (Fr_m f6 (fun x j g => by omega)))))) (by intros; omega)
  refine ⟨sA s5 (a + 9) (va_cpy (s5.1 (c + 9)) (s5.1 (a + 9)) 0 0 3), ?_, Pm_fr hpa f16 (fun j g => by unfold cD at g; omega), hH5, hS6, SnC_fr d2 f6 (by omega) (by intros; omega), fun j hj => ?_, f16⟩
  · unfold fX5_copyFrom bX5_copyFrom_0
    simp (decide := true) only [ob_s, cS_l, cS_r, gI_k, gR_k, pI_k, pR_k, cV_k, aI_k, tI_k, rZ_0, rZ_1, rZ_i, aB_k, tB_k, aZ_k, tZ_k, aR_24, aR_25, aR_27, rf_0_6, rf_0_7, rf_0_8, rf_0_9, rf_1_0, rf_1_1, rf_2_2, rf_3_6, rf_3_7, rf_3_8, rf_4_1, rf_4_3, rf_4_4, rf_5_0, rf_5_1, rf_5_3, rf_5_4, rf_5_5, rf_5_7, rf_6_4, rf_6_9, rf_6_10, rf_6_11, rf_6_12, rf_6_5, rf_8_0, rf_9_7, rf_9_8, rf_10_2, rf_11_0, rf_11_5, rf_11_6, rf_11_7, rf_11_9, rf_11_10, rf_11_11, rf_11_12, rf_24, rf_27, o0, p0, p1.1, a1, e1]
    have b1' : lX5_copyFrom_21 N N a c 0 (mk (sI s1 a 2 (nI na))) = bX5_copyFrom_50 N a c (mk s3) := b1
    rw [b1']
    unfold bX5_copyFrom_50
    simp (decide := true) only [ob_s, cS_l, cS_r, gI_k, gR_k, pI_k, pR_k, cV_k, aI_k, tI_k, rZ_0, rZ_1, rZ_i, aB_k, tB_k, aZ_k, tZ_k, aR_24, aR_25, aR_27, rf_0_6, rf_0_7, rf_0_8, rf_0_9, rf_1_0, rf_1_1, rf_2_2, rf_3_6, rf_3_7, rf_3_8, rf_4_1, rf_4_3, rf_4_4, rf_5_0, rf_5_1, rf_5_3, rf_5_4, rf_5_5, rf_5_7, rf_6_4, rf_6_9, rf_6_10, rf_6_11, rf_6_12, rf_6_5, rf_8_0, rf_9_7, rf_9_8, rf_10_2, rf_11_0, rf_11_5, rf_11_6, rf_11_7, rf_11_9, rf_11_10, rf_11_11, rf_11_12, rf_24, rf_27, o0, p0, hn3.1]
    have d1' : lX5_copyFrom_60 N N a c 0 (mk (sI s3 a 6 (nI ns))) = bX5_copyFrom_110 N a c (mk s5) := d1
    rw [d1']
    unfold bX5_copyFrom_110
    simp (decide := true) only [ob_s, cS_l, cS_r, gI_k, gR_k, pI_k, pR_k, cV_k, aI_k, tI_k, rZ_0, rZ_1, rZ_i, aB_k, tB_k, aZ_k, tZ_k, aR_24, aR_25, aR_27, rf_0_6, rf_0_7, rf_0_8, rf_0_9, rf_1_0, rf_1_1, rf_2_2, rf_3_6, rf_3_7, rf_3_8, rf_4_1, rf_4_3, rf_4_4, rf_5_0, rf_5_1, rf_5_3, rf_5_4, rf_5_5, rf_5_7, rf_6_4, rf_6_9, rf_6_10, rf_6_11, rf_6_12, rf_6_5, rf_8_0, rf_9_7, rf_9_8, rf_10_2, rf_11_0, rf_11_5, rf_11_6, rf_11_7, rf_11_9, rf_11_10, rf_11_11, rf_11_12, rf_24, rf_27, o0, p0, aN_k, p10, true_or, p11, cp]
  · rw [sA_at]
    unfold va_cpy
    rw [if_pos (by omega), show 0 + (j - 0) = j by omega]
    exact f5.1 _ _ (fun g => by unfold cD at g; omega)
end SY
