/- needs: 55.acts -/
/-! the class's acts: clouds, undo, see, forget, image, restore -/
section AD
variable {N : Nat} {s : sg} {P : pln} {n D mv k m nr p w u v : Nat} {q : Nat → Int32} {b : Nat → Nat} {S S' : scn} {on : Bool}
theorem c_clouds (hN1 : 1000 ≤ N) (W : Wp P n D mv) (Z : WS n D S) (h : CM s p P n D mv nr q b S) (hu : u ≤ v) (hv : v < D) : ∃ s', fX11_clouds N 0 (nI u) (nI v) (sk_i on) (mk s) = some (.inl (pClouds S u v on).1, mk s') ∧ CM s' p P n D mv nr q b (pClouds S u v on).2 ∧ Fr cM s s' := by
  have hn8 := W.1
  have hD := W.2.2.2.1
  have hpO := plA_O h.1.1.1
  obtain ⟨s2, b1, b2, b3⟩ := c_keepS (N := N) hN1 h hn8 Z
  have sO : skO 40 := ⟨rfl, rfl, rfl⟩
  obtain ⟨s3, d1, d2, d3⟩ := c_paint (N := N) (K := S.2.1) (u := u) (v := v) (on := on) hN1 sO (by omega) (by omega) b2.1.1.2.2.2.2.2.2.2.2.2.2.2
  rw [show min v 479 = v by omega] at d1
  have hS3 : SAt s3 38 S.1 (pnt S.2.1 on u (v + 1)) := SAt_sky b2.1.1.2.2.2 d3 d2
  have f3 : Fr (stD 38) s2 s3 := Fr_m d3 (fun x j g => by unfold stD; omega)
  refine ⟨s3, ?_, CM_st b2 hn8 (WS_kp S.2.1 Z Z.1).2.1 f3 hS3, Fr_t (Fr_m b3 (fun x j => kD_cM)) (Fr_m f3 (fun x j => st_cM))⟩
  unfold fX11_clouds bX11_clouds_0
  simp (decide := true) only [ob_s, cS_l, cS_r, gI_k, gR_k, pI_k, pR_k, cV_k, aI_k, tI_k, rZ_0, rZ_1, rZ_i, aR_24, aR_25, aZ_k, tZ_k, rf_3_6, rf_3_7, rf_3_8, rf_5_0, rf_5_1, rf_5_3, rf_5_4, rf_5_5, rf_5_7, rf_6_4, rf_6_11, rf_1_0, rf_1_1, rf_0_6, rf_9_7, rf_9_8, rf_8_0, rf_11_0, rf_11_5, rf_11_6, rf_11_7, rf_11_9, rf_11_10, rf_11_11, rf_11_12, rf_11_3, rf_11_4, Nat.reduceAdd, Nat.zero_add, kc_0, kc_1, kc_34, kc_35, kc_36, kc_37, kc_38, kc_39, kc_40, kc_41, kc_42, kc_43, kc_44, kc_45, kc_46, kc_207, kc_208, kc_209, kc_210, kc_211, kc_212, kc_213, kc_214, kc_215, kc_216, kc_377, kc_378, kc_379, kc_380, kc_381, kc_382, kc_383, kc_384, kc_385, kc_386, kc_387, kc_388, kc_389, kc_390, kc_391, kc_392, kc_393, kc_394, kc_395, kc_414, kc_415, kc_416, kc_417, kc_418, kn_1, kn_36, kn_39, kn_41, kn_42, kn_43, kn_44, kn_45, kn_46, kn_209, kn_211, kn_212, kn_213, kn_214, kn_215, kn_216, kn_378, kn_380, kn_382, kn_383, kn_385, kn_386, kn_388, kn_390, kn_392, kn_393, kn_395, kn_414, kn_415, kn_417, kn_418, h.1.1.2.1, hpO.1, c_isMin h.1.1 (show u < D by omega) hD, c_isMin h.1.1 hv hD, if_false]
  rw [if_pos (nI_le hu (by omega))]
  simp (decide := true) only [ob_s, cS_l, cS_r, gI_k, gR_k, pI_k, pR_k, cV_k, aI_k, tI_k, rZ_0, rZ_1, rZ_i, aR_24, aR_25, aZ_k, tZ_k, rf_3_6, rf_3_7, rf_3_8, rf_5_0, rf_5_1, rf_5_3, rf_5_4, rf_5_5, rf_5_7, rf_6_4, rf_6_11, rf_1_0, rf_1_1, rf_0_6, rf_9_7, rf_9_8, rf_8_0, rf_11_0, rf_11_5, rf_11_6, rf_11_7, rf_11_9, rf_11_10, rf_11_11, rf_11_12, rf_11_3, rf_11_4, Nat.reduceAdd, Nat.zero_add, kc_0, kc_1, kc_34, kc_35, kc_36, kc_37, kc_38, kc_39, kc_40, kc_41, kc_42, kc_43, kc_44, kc_45, kc_46, kc_207, kc_208, kc_209, kc_210, kc_211, kc_212, kc_213, kc_214, kc_215, kc_216, kc_377, kc_378, kc_379, kc_380, kc_381, kc_382, kc_383, kc_384, kc_385, kc_386, kc_387, kc_388, kc_389, kc_390, kc_391, kc_392, kc_393, kc_394, kc_395, kc_414, kc_415, kc_416, kc_417, kc_418, kn_1, kn_36, kn_39, kn_41, kn_42, kn_43, kn_44, kn_45, kn_46, kn_209, kn_211, kn_212, kn_213, kn_214, kn_215, kn_216, kn_378, kn_380, kn_382, kn_383, kn_385, kn_386, kn_388, kn_390, kn_392, kn_393, kn_395, kn_414, kn_415, kn_417, kn_418, b1, d1]
  rfl
theorem c_clouds' {x y z : Int32} (W : Wp P n D mv) (Z : WS n D S) (h : CM s p P n D mv nr q b S) (hx : (x < 0 ∨ (¬ x < 0 ∧ nI D ≤ x)) ∨ (∃ u, u < D ∧ x = nI u) ∧ ((y < 0 ∨ (¬ y < 0 ∧ nI D ≤ y)) ∨ (∃ v, v < D ∧ y = nI v) ∧ ¬ x ≤ y)) : ∃ s', fX11_clouds N 0 x y z (mk s) = some (.inl (-1), mk s') ∧ CM s' p P n D mv nr q b (rfS S 1) ∧ Fr cM s s' := by
  have hn8 := W.1
  have hD := W.2.2.2.1
  have hpO := plA_O h.1.1.1
  obtain ⟨s9, r1, r2, r3⟩ := c_refuse (N := N) h hn8 Z.2.1
  refine ⟨s9, ?_, r2, r3⟩
  have rf : bX11_clouds_27 N 0 (mk s) = some (.inl (-1), mk s9) := by
    unfold bX11_clouds_27
    simp (decide := true) only [ob_s, cS_l, cS_r, gI_k, gR_k, pI_k, pR_k, cV_k, aI_k, tI_k, rZ_0, rZ_1, rZ_i, aR_24, aR_25, aZ_k, tZ_k, rf_3_6, rf_3_7, rf_3_8, rf_5_0, rf_5_1, rf_5_3, rf_5_4, rf_5_5, rf_5_7, rf_6_4, rf_6_11, rf_1_0, rf_1_1, rf_0_6, rf_9_7, rf_9_8, rf_8_0, rf_11_0, rf_11_5, rf_11_6, rf_11_7, rf_11_9, rf_11_10, rf_11_11, rf_11_12, rf_11_3, rf_11_4, Nat.reduceAdd, Nat.zero_add, kc_0, kc_1, kc_34, kc_35, kc_36, kc_37, kc_38, kc_39, kc_40, kc_41, kc_42, kc_43, kc_44, kc_45, kc_46, kc_207, kc_208, kc_209, kc_210, kc_211, kc_212, kc_213, kc_214, kc_215, kc_216, kc_377, kc_378, kc_379, kc_380, kc_381, kc_382, kc_383, kc_384, kc_385, kc_386, kc_387, kc_388, kc_389, kc_390, kc_391, kc_392, kc_393, kc_394, kc_395, kc_414, kc_415, kc_416, kc_417, kc_418, kn_1, kn_36, kn_39, kn_41, kn_42, kn_43, kn_44, kn_45, kn_46, kn_209, kn_211, kn_212, kn_213, kn_214, kn_215, kn_216, kn_378, kn_380, kn_382, kn_383, kn_385, kn_386, kn_388, kn_390, kn_392, kn_393, kn_395, kn_414, kn_415, kn_417, kn_418, r1]
  unfold fX11_clouds bX11_clouds_0
  rcases hx with hx | ⟨⟨u, hu, hxu⟩, hy | ⟨⟨v, hv, hyv⟩, hxy⟩⟩
  · simp (decide := true) only [ob_s, cS_l, cS_r, gI_k, gR_k, pI_k, pR_k, cV_k, aI_k, tI_k, rZ_0, rZ_1, rZ_i, aR_24, aR_25, aZ_k, tZ_k, rf_3_6, rf_3_7, rf_3_8, rf_5_0, rf_5_1, rf_5_3, rf_5_4, rf_5_5, rf_5_7, rf_6_4, rf_6_11, rf_1_0, rf_1_1, rf_0_6, rf_9_7, rf_9_8, rf_8_0, rf_11_0, rf_11_5, rf_11_6, rf_11_7, rf_11_9, rf_11_10, rf_11_11, rf_11_12, rf_11_3, rf_11_4, Nat.reduceAdd, Nat.zero_add, kc_0, kc_1, kc_34, kc_35, kc_36, kc_37, kc_38, kc_39, kc_40, kc_41, kc_42, kc_43, kc_44, kc_45, kc_46, kc_207, kc_208, kc_209, kc_210, kc_211, kc_212, kc_213, kc_214, kc_215, kc_216, kc_377, kc_378, kc_379, kc_380, kc_381, kc_382, kc_383, kc_384, kc_385, kc_386, kc_387, kc_388, kc_389, kc_390, kc_391, kc_392, kc_393, kc_394, kc_395, kc_414, kc_415, kc_416, kc_417, kc_418, kn_1, kn_36, kn_39, kn_41, kn_42, kn_43, kn_44, kn_45, kn_46, kn_209, kn_211, kn_212, kn_213, kn_214, kn_215, kn_216, kn_378, kn_380, kn_382, kn_383, kn_385, kn_386, kn_388, kn_390, kn_392, kn_393, kn_395, kn_414, kn_415, kn_417, kn_418, h.1.1.2.1, hpO.1, c_isMin' h.1.1 hx, if_true]
    exact rf
  · have m1 := c_isMin (N := N) h.1.1 hu hD
    rw [← hxu] at m1
    simp (decide := true) only [ob_s, cS_l, cS_r, gI_k, gR_k, pI_k, pR_k, cV_k, aI_k, tI_k, rZ_0, rZ_1, rZ_i, aR_24, aR_25, aZ_k, tZ_k, rf_3_6, rf_3_7, rf_3_8, rf_5_0, rf_5_1, rf_5_3, rf_5_4, rf_5_5, rf_5_7, rf_6_4, rf_6_11, rf_1_0, rf_1_1, rf_0_6, rf_9_7, rf_9_8, rf_8_0, rf_11_0, rf_11_5, rf_11_6, rf_11_7, rf_11_9, rf_11_10, rf_11_11, rf_11_12, rf_11_3, rf_11_4, Nat.reduceAdd, Nat.zero_add, kc_0, kc_1, kc_34, kc_35, kc_36, kc_37, kc_38, kc_39, kc_40, kc_41, kc_42, kc_43, kc_44, kc_45, kc_46, kc_207, kc_208, kc_209, kc_210, kc_211, kc_212, kc_213, kc_214, kc_215, kc_216, kc_377, kc_378, kc_379, kc_380, kc_381, kc_382, kc_383, kc_384, kc_385, kc_386, kc_387, kc_388, kc_389, kc_390, kc_391, kc_392, kc_393, kc_394, kc_395, kc_414, kc_415, kc_416, kc_417, kc_418, kn_1, kn_36, kn_39, kn_41, kn_42, kn_43, kn_44, kn_45, kn_46, kn_209, kn_211, kn_212, kn_213, kn_214, kn_215, kn_216, kn_378, kn_380, kn_382, kn_383, kn_385, kn_386, kn_388, kn_390, kn_392, kn_393, kn_395, kn_414, kn_415, kn_417, kn_418, h.1.1.2.1, hpO.1, m1, c_isMin' h.1.1 hy, if_true, if_false]
    exact rf
  · have m1 := c_isMin (N := N) h.1.1 hu hD
    rw [← hxu] at m1
    have m2 := c_isMin (N := N) h.1.1 hv hD
    rw [← hyv] at m2
    simp (decide := true) only [ob_s, cS_l, cS_r, gI_k, gR_k, pI_k, pR_k, cV_k, aI_k, tI_k, rZ_0, rZ_1, rZ_i, aR_24, aR_25, aZ_k, tZ_k, rf_3_6, rf_3_7, rf_3_8, rf_5_0, rf_5_1, rf_5_3, rf_5_4, rf_5_5, rf_5_7, rf_6_4, rf_6_11, rf_1_0, rf_1_1, rf_0_6, rf_9_7, rf_9_8, rf_8_0, rf_11_0, rf_11_5, rf_11_6, rf_11_7, rf_11_9, rf_11_10, rf_11_11, rf_11_12, rf_11_3, rf_11_4, Nat.reduceAdd, Nat.zero_add, kc_0, kc_1, kc_34, kc_35, kc_36, kc_37, kc_38, kc_39, kc_40, kc_41, kc_42, kc_43, kc_44, kc_45, kc_46, kc_207, kc_208, kc_209, kc_210, kc_211, kc_212, kc_213, kc_214, kc_215, kc_216, kc_377, kc_378, kc_379, kc_380, kc_381, kc_382, kc_383, kc_384, kc_385, kc_386, kc_387, kc_388, kc_389, kc_390, kc_391, kc_392, kc_393, kc_394, kc_395, kc_414, kc_415, kc_416, kc_417, kc_418, kn_1, kn_36, kn_39, kn_41, kn_42, kn_43, kn_44, kn_45, kn_46, kn_209, kn_211, kn_212, kn_213, kn_214, kn_215, kn_216, kn_378, kn_380, kn_382, kn_383, kn_385, kn_386, kn_388, kn_390, kn_392, kn_393, kn_395, kn_414, kn_415, kn_417, kn_418, h.1.1.2.1, hpO.1, m1, m2, if_false]
    rw [if_neg hxy]
    exact rf
theorem c_undo (Z : WS n D S) (hn : n ≤ 8) (h : CM s p P n D mv nr q b S) : ∃ s', fX11_undo N 0 (mk s) = some (.inl (pUndo S).1, mk s') ∧ CM s' p P n D mv nr q b (pUndo S).2 ∧ Fr cM s s' := by
  obtain ⟨h1, h2, h3, h4, h5⟩ := h.2
  unfold fX11_undo bX11_undo_0 pUndo
  by_cases e : S.2.2.1.1 = 0
  · rw [if_pos e]
    rw [e] at h3
    have a1 := c_back0 (N := N) (Or.inl rfl) h3
    simp (decide := true) only [ob_s, cS_l, cS_r, gI_k, gR_k, pI_k, pR_k, cV_k, aI_k, tI_k, rZ_0, rZ_1, rZ_i, aR_24, aR_25, aZ_k, tZ_k, rf_3_6, rf_3_7, rf_3_8, rf_5_0, rf_5_1, rf_5_3, rf_5_4, rf_5_5, rf_5_7, rf_6_4, rf_6_11, rf_1_0, rf_1_1, rf_0_6, rf_9_7, rf_9_8, rf_8_0, rf_11_0, rf_11_5, rf_11_6, rf_11_7, rf_11_9, rf_11_10, rf_11_11, rf_11_12, rf_11_3, rf_11_4, Nat.reduceAdd, Nat.zero_add, kc_0, kc_1, kc_34, kc_35, kc_36, kc_37, kc_38, kc_39, kc_40, kc_41, kc_42, kc_43, kc_44, kc_45, kc_46, kc_207, kc_208, kc_209, kc_210, kc_211, kc_212, kc_213, kc_214, kc_215, kc_216, kc_377, kc_378, kc_379, kc_380, kc_381, kc_382, kc_383, kc_384, kc_385, kc_386, kc_387, kc_388, kc_389, kc_390, kc_391, kc_392, kc_393, kc_394, kc_395, kc_414, kc_415, kc_416, kc_417, kc_418, kn_1, kn_36, kn_39, kn_41, kn_42, kn_43, kn_44, kn_45, kn_46, kn_209, kn_211, kn_212, kn_213, kn_214, kn_215, kn_216, kn_378, kn_380, kn_382, kn_383, kn_385, kn_386, kn_388, kn_390, kn_392, kn_393, kn_395, kn_414, kn_415, kn_417, kn_418, a1, if_true]
    exact ⟨s, rfl, h, Fr_r _ _⟩
  · rw [if_neg e]
    obtain ⟨g, hg⟩ : ∃ g, S.2.2.1.1 = g + 1 := ⟨S.2.2.1.1 - 1, by omega⟩
    have hz := Z.2.2.1 g (by omega)
    have hna := Z.2.1
    rw [hg] at h3
    obtain ⟨s1, a1, a2, a3, a4, a5⟩ := c_back (N := N) (Or.inl rfl) h1 (by omega) h3 hz.2.2.2
    have e2 : s1.1 37 2 = nI g := a3.1
    simp (decide := true) only [ob_s, cS_l, cS_r, gI_k, gR_k, pI_k, pR_k, cV_k, aI_k, tI_k, rZ_0, rZ_1, rZ_i, aR_24, aR_25, aZ_k, tZ_k, rf_3_6, rf_3_7, rf_3_8, rf_5_0, rf_5_1, rf_5_3, rf_5_4, rf_5_5, rf_5_7, rf_6_4, rf_6_11, rf_1_0, rf_1_1, rf_0_6, rf_9_7, rf_9_8, rf_8_0, rf_11_0, rf_11_5, rf_11_6, rf_11_7, rf_11_9, rf_11_10, rf_11_11, rf_11_12, rf_11_3, rf_11_4, Nat.reduceAdd, Nat.zero_add, kc_0, kc_1, kc_34, kc_35, kc_36, kc_37, kc_38, kc_39, kc_40, kc_41, kc_42, kc_43, kc_44, kc_45, kc_46, kc_207, kc_208, kc_209, kc_210, kc_211, kc_212, kc_213, kc_214, kc_215, kc_216, kc_377, kc_378, kc_379, kc_380, kc_381, kc_382, kc_383, kc_384, kc_385, kc_386, kc_387, kc_388, kc_389, kc_390, kc_391, kc_392, kc_393, kc_394, kc_395, kc_414, kc_415, kc_416, kc_417, kc_418, kn_1, kn_36, kn_39, kn_41, kn_42, kn_43, kn_44, kn_45, kn_46, kn_209, kn_211, kn_212, kn_213, kn_214, kn_215, kn_216, kn_378, kn_380, kn_382, kn_383, kn_385, kn_386, kn_388, kn_390, kn_392, kn_393, kn_395, kn_414, kn_415, kn_417, kn_418, a1, e2, if_false]
    rw [show S.2.2.1.1 - 1 = g by omega]
    exact ⟨s1, rfl, ⟨CR2_g h.1 hn a5 (fun x j g => by omega) a4, a2, a4, a3, SnC_fr h4 a5 (by omega) (by intros; omega), fun j hj => (a5.1 _ _ (by omega)).trans (h5 j hj)⟩, Fr_m a5 (fun x j g => by unfold cM; omega)⟩
theorem WS_undo (Z : WS n D S) : WS n D (pUndo S).2 := by
  unfold pUndo
  by_cases e : S.2.2.1.1 = 0
  · rw [if_pos e]; exact Z
  · rw [if_neg e]
    have hna := Z.2.1
    exact ⟨Z.2.2.1 _ (by omega), (by show S.2.2.1.1 - 1 ≤ 40; omega), fun i hi => Z.2.2.1 i (by have hi' : i < S.2.2.1.1 - 1 := hi; omega), Z.2.2.2⟩
theorem c_see {x : Int32} (W : Wp P n D mv) (Z : WS n D S) (h : CM s p P n D mv nr q b S) (hk : k < n) : ∃ s', fX11_see N 0 (nI k) x (sk_i on) (mk s) = some (.inl (pSee S k x on).1, mk s') ∧ CM s' p P n D mv nr q b (pSee S k x on).2 ∧ Fr cM s s' := by
  have hn8 := W.1
  obtain ⟨h1, h2, h3, h4, h5⟩ := h.2
  have hns := Z.2.2.2.1
  obtain ⟨r1, r2⟩ := c_rfS (w := 2) (x := s.1 46 2 + 1) h hn8 Z.2.1 (by omega) (by rw [h5 2 (by omega)])
  have rf : bX11_see_28 N 0 (mk s) = some (.inl (-1), mk (sI s 46 2 (s.1 46 2 + 1))) := by
    unfold bX11_see_28
    simp (decide := true) only [ob_s, cS_l, cS_r, gI_k, gR_k, pI_k, pR_k, cV_k, aI_k, tI_k, rZ_0, rZ_1, rZ_i, aR_24, aR_25, aZ_k, tZ_k, rf_3_6, rf_3_7, rf_3_8, rf_5_0, rf_5_1, rf_5_3, rf_5_4, rf_5_5, rf_5_7, rf_6_4, rf_6_11, rf_1_0, rf_1_1, rf_0_6, rf_9_7, rf_9_8, rf_8_0, rf_11_0, rf_11_5, rf_11_6, rf_11_7, rf_11_9, rf_11_10, rf_11_11, rf_11_12, rf_11_3, rf_11_4, Nat.reduceAdd, Nat.zero_add, kc_0, kc_1, kc_34, kc_35, kc_36, kc_37, kc_38, kc_39, kc_40, kc_41, kc_42, kc_43, kc_44, kc_45, kc_46, kc_207, kc_208, kc_209, kc_210, kc_211, kc_212, kc_213, kc_214, kc_215, kc_216, kc_377, kc_378, kc_379, kc_380, kc_381, kc_382, kc_383, kc_384, kc_385, kc_386, kc_387, kc_388, kc_389, kc_390, kc_391, kc_392, kc_393, kc_394, kc_395, kc_414, kc_415, kc_416, kc_417, kc_418, kn_1, kn_36, kn_39, kn_41, kn_42, kn_43, kn_44, kn_45, kn_46, kn_209, kn_211, kn_212, kn_213, kn_214, kn_215, kn_216, kn_378, kn_380, kn_382, kn_383, kn_385, kn_386, kn_388, kn_390, kn_392, kn_393, kn_395, kn_414, kn_415, kn_417, kn_418]
    rfl
  have e6 : s.1 37 6 = nI S.2.2.2.1.1 := h4.1
  unfold fX11_see bX11_see_0 pSee
  simp (decide := true) only [ob_s, cS_l, cS_r, gI_k, gR_k, pI_k, pR_k, cV_k, aI_k, tI_k, rZ_0, rZ_1, rZ_i, aR_24, aR_25, aZ_k, tZ_k, rf_3_6, rf_3_7, rf_3_8, rf_5_0, rf_5_1, rf_5_3, rf_5_4, rf_5_5, rf_5_7, rf_6_4, rf_6_11, rf_1_0, rf_1_1, rf_0_6, rf_9_7, rf_9_8, rf_8_0, rf_11_0, rf_11_5, rf_11_6, rf_11_7, rf_11_9, rf_11_10, rf_11_11, rf_11_12, rf_11_3, rf_11_4, Nat.reduceAdd, Nat.zero_add, kc_0, kc_1, kc_34, kc_35, kc_36, kc_37, kc_38, kc_39, kc_40, kc_41, kc_42, kc_43, kc_44, kc_45, kc_46, kc_207, kc_208, kc_209, kc_210, kc_211, kc_212, kc_213, kc_214, kc_215, kc_216, kc_377, kc_378, kc_379, kc_380, kc_381, kc_382, kc_383, kc_384, kc_385, kc_386, kc_387, kc_388, kc_389, kc_390, kc_391, kc_392, kc_393, kc_394, kc_395, kc_414, kc_415, kc_416, kc_417, kc_418, kn_1, kn_36, kn_39, kn_41, kn_42, kn_43, kn_44, kn_45, kn_46, kn_209, kn_211, kn_212, kn_213, kn_214, kn_215, kn_216, kn_378, kn_380, kn_382, kn_383, kn_385, kn_386, kn_388, kn_390, kn_392, kn_393, kn_395, kn_414, kn_415, kn_417, kn_418, c_reqShot h.1.1 hk hn8, e6, rf]
  by_cases c1 : x < 0
  · rw [if_pos c1, if_neg (fun g => g.1 c1)]; exact ⟨_, rfl, r1, r2⟩
  · rw [if_neg c1]
    by_cases c2 : 480 ≤ x
    · rw [if_pos c2, if_neg (fun g => g.2.1 c2)]; exact ⟨_, rfl, r1, r2⟩
    · rw [if_neg c2]
      by_cases c3 : S.2.2.2.1.1 < 8
      · rw [if_pos (show nI S.2.2.2.1.1 < (8 : Int32) from nI_lt (b := 8) c3 (by omega)), if_pos ⟨c1, c2, c3⟩]
        obtain ⟨m, hm, hxm⟩ : ∃ m, m < 480 ∧ x = nI m := by
          rcases rng x 480 (by omega) with ⟨m, g1, g2, _⟩ | ⟨g | g, _⟩
          · exact ⟨m, g1, g2⟩
          · exact absurd g c1
          · exact absurd g.2 c2
        have i8 : inB (nI S.2.2.2.1.1) 8 = true := inA_nI (by omega) (by omega)
        generalize hns0 : S.2.2.2.1.1 = ns at *
        generalize hs1 : sI (sI (sI (sI s 43 ns (nI k)) 44 ns x) 45 ns (sk_i on)) 37 6 (nI (ns + 1)) = s1
        have f1 : Fr (fun y j => 43 ≤ y ∧ y ≤ 45 ∨ y = 37 ∧ j = 6) s s1 := by
          rw [← hs1]
          exact Fr_t (Fr_t (Fr_t (Fr_sI (by omega)) (Fr_sI (by omega))) (Fr_sI (by omega))) (Fr_sI (by omega))
        have hk8 : ¬ (8 : Int32) ≤ nI ns := nI_ge (b := 8) c3 (by omega)
        have hks : fX5_keepSeen N 37 (nI k) x (sk_i on) (mk s) = some (.inl (), mk s1) := by
          unfold fX5_keepSeen bX5_keepSeen_0
          simp (decide := true) only [ob_s, cS_l, cS_r, gI_k, gR_k, pI_k, pR_k, cV_k, aI_k, tI_k, rZ_0, rZ_1, rZ_i, aR_24, aR_25, aZ_k, tZ_k, rf_3_6, rf_3_7, rf_3_8, rf_5_0, rf_5_1, rf_5_3, rf_5_4, rf_5_5, rf_5_7, rf_6_4, rf_6_11, rf_1_0, rf_1_1, rf_0_6, rf_9_7, rf_9_8, rf_8_0, rf_11_0, rf_11_5, rf_11_6, rf_11_7, rf_11_9, rf_11_10, rf_11_11, rf_11_12, rf_11_3, rf_11_4, Nat.reduceAdd, Nat.zero_add, kc_0, kc_1, kc_34, kc_35, kc_36, kc_37, kc_38, kc_39, kc_40, kc_41, kc_42, kc_43, kc_44, kc_45, kc_46, kc_207, kc_208, kc_209, kc_210, kc_211, kc_212, kc_213, kc_214, kc_215, kc_216, kc_377, kc_378, kc_379, kc_380, kc_381, kc_382, kc_383, kc_384, kc_385, kc_386, kc_387, kc_388, kc_389, kc_390, kc_391, kc_392, kc_393, kc_394, kc_395, kc_414, kc_415, kc_416, kc_417, kc_418, kn_1, kn_36, kn_39, kn_41, kn_42, kn_43, kn_44, kn_45, kn_46, kn_209, kn_211, kn_212, kn_213, kn_214, kn_215, kn_216, kn_378, kn_380, kn_382, kn_383, kn_385, kn_386, kn_388, kn_390, kn_392, kn_393, kn_395, kn_414, kn_415, kn_417, kn_418, e6]
          rw [if_neg hk8]
          simp (decide := true) only [ob_s, cS_l, cS_r, gI_k, gR_k, pI_k, pR_k, cV_k, aI_k, tI_k, rZ_0, rZ_1, rZ_i, aR_24, aR_25, aZ_k, tZ_k, rf_3_6, rf_3_7, rf_3_8, rf_5_0, rf_5_1, rf_5_3, rf_5_4, rf_5_5, rf_5_7, rf_6_4, rf_6_11, rf_1_0, rf_1_1, rf_0_6, rf_9_7, rf_9_8, rf_8_0, rf_11_0, rf_11_5, rf_11_6, rf_11_7, rf_11_9, rf_11_10, rf_11_11, rf_11_12, rf_11_3, rf_11_4, Nat.reduceAdd, Nat.zero_add, kc_0, kc_1, kc_34, kc_35, kc_36, kc_37, kc_38, kc_39, kc_40, kc_41, kc_42, kc_43, kc_44, kc_45, kc_46, kc_207, kc_208, kc_209, kc_210, kc_211, kc_212, kc_213, kc_214, kc_215, kc_216, kc_377, kc_378, kc_379, kc_380, kc_381, kc_382, kc_383, kc_384, kc_385, kc_386, kc_387, kc_388, kc_389, kc_390, kc_391, kc_392, kc_393, kc_394, kc_395, kc_414, kc_415, kc_416, kc_417, kc_418, kn_1, kn_36, kn_39, kn_41, kn_42, kn_43, kn_44, kn_45, kn_46, kn_209, kn_211, kn_212, kn_213, kn_214, kn_215, kn_216, kn_378, kn_380, kn_382, kn_383, kn_385, kn_386, kn_388, kn_390, kn_392, kn_393, kn_395, kn_414, kn_415, kn_417, kn_418, e6, i8, sI_c, Nat.reduceEqDiff, false_and, if_false, nI_clamp (show ns < 2 ^ 31 by omega), nz_i, nI_1, hs1]
        have e7 : s1.1 37 6 = nI (ns + 1) := by rw [← hs1, sI_at]
        have hS1 := SAt_fr h2 f1 (fun y j g1 g2 => by omega)
        refine ⟨s1, ?_, ⟨CR2_g h.1 hn8 f1 (fun y j g => by omega) hS1, Pm_fr h1 f1 (fun j => by omega), hS1, HsC_fr h3 h1 Z.2.1 f1 (fun j => by omega) (by omega) (by intros; omega), ⟨e7, fun i hi => ?_⟩, fun j hj => (f1.1 _ _ (by omega)).trans (h5 j hj)⟩, Fr_m f1 (fun y j g => by unfold cM; omega)⟩
        · simp (decide := true) only [ob_s, cS_l, cS_r, gI_k, gR_k, pI_k, pR_k, cV_k, aI_k, tI_k, rZ_0, rZ_1, rZ_i, aR_24, aR_25, aZ_k, tZ_k, rf_3_6, rf_3_7, rf_3_8, rf_5_0, rf_5_1, rf_5_3, rf_5_4, rf_5_5, rf_5_7, rf_6_4, rf_6_11, rf_1_0, rf_1_1, rf_0_6, rf_9_7, rf_9_8, rf_8_0, rf_11_0, rf_11_5, rf_11_6, rf_11_7, rf_11_9, rf_11_10, rf_11_11, rf_11_12, rf_11_3, rf_11_4, Nat.reduceAdd, Nat.zero_add, kc_0, kc_1, kc_34, kc_35, kc_36, kc_37, kc_38, kc_39, kc_40, kc_41, kc_42, kc_43, kc_44, kc_45, kc_46, kc_207, kc_208, kc_209, kc_210, kc_211, kc_212, kc_213, kc_214, kc_215, kc_216, kc_377, kc_378, kc_379, kc_380, kc_381, kc_382, kc_383, kc_384, kc_385, kc_386, kc_387, kc_388, kc_389, kc_390, kc_391, kc_392, kc_393, kc_394, kc_395, kc_414, kc_415, kc_416, kc_417, kc_418, kn_1, kn_36, kn_39, kn_41, kn_42, kn_43, kn_44, kn_45, kn_46, kn_209, kn_211, kn_212, kn_213, kn_214, kn_215, kn_216, kn_378, kn_380, kn_382, kn_383, kn_385, kn_386, kn_388, kn_390, kn_392, kn_393, kn_395, kn_414, kn_415, kn_417, kn_418, hks, e7]
        · show s1.1 43 i = nI (if i = ns then k else S.2.2.2.1.2.1 i) ∧ s1.1 44 i = nI (if i = ns then x.toNatClampNeg else S.2.2.2.1.2.2.1 i) ∧ s1.1 45 i = sk_i (if i = ns then on else S.2.2.2.1.2.2.2 i)
          have hi' : i < ns + 1 := hi
          rw [← hs1]
          by_cases e : i = ns
          · subst e
            rw [if_pos rfl, if_pos rfl, if_pos rfl]
            refine ⟨?_, ?_, ?_⟩
            · rw [sI_1, if_neg (by omega), sI_1, if_neg (by omega), sI_1, if_neg (by omega), sI_at]
            · rw [sI_1, if_neg (by omega), sI_1, if_neg (by omega), sI_at, hxm, nI_clamp (by omega)]
            · rw [sI_1, if_neg (by omega), sI_at]
          · rw [if_neg e, if_neg e, if_neg e]
            obtain ⟨g1, g2, g3⟩ := h4.2 i (by omega)
            refine ⟨?_, ?_, ?_⟩
            · rw [sI_1, if_neg (by omega), sI_1, if_neg (by omega), sI_1, if_neg (by omega), sI_1, if_neg (by omega)]; exact g1
            · rw [sI_1, if_neg (by omega), sI_1, if_neg (by omega), sI_1, if_neg (by omega), sI_1, if_neg (by omega)]; exact g2
            · rw [sI_1, if_neg (by omega), sI_1, if_neg (by omega), sI_1, if_neg (by omega), sI_1, if_neg (by omega)]; exact g3
      · rw [if_neg (show ¬ nI S.2.2.2.1.1 < (8 : Int32) from fun g => absurd (show (8 : Int32) ≤ nI S.2.2.2.1.1 from nI_le (a := 8) (by omega) (by omega)) (Int32.not_le.mpr g)), if_neg (fun g => c3 g.2.2)]; exact ⟨_, rfl, r1, r2⟩
theorem c_see' {x y z : Int32} (h : CM s p P n D mv nr q b S) (hx : x < 0 ∨ (¬ x < 0 ∧ nI n ≤ x)) : fX11_see N 0 x y z (mk s) = some (.inr 1, mk s) := by
  unfold fX11_see bX11_see_0
  simp (decide := true) only [ob_s, cS_l, cS_r, gI_k, gR_k, pI_k, pR_k, cV_k, aI_k, tI_k, rZ_0, rZ_1, rZ_i, aR_24, aR_25, aZ_k, tZ_k, rf_3_6, rf_3_7, rf_3_8, rf_5_0, rf_5_1, rf_5_3, rf_5_4, rf_5_5, rf_5_7, rf_6_4, rf_6_11, rf_1_0, rf_1_1, rf_0_6, rf_9_7, rf_9_8, rf_8_0, rf_11_0, rf_11_5, rf_11_6, rf_11_7, rf_11_9, rf_11_10, rf_11_11, rf_11_12, rf_11_3, rf_11_4, Nat.reduceAdd, Nat.zero_add, kc_0, kc_1, kc_34, kc_35, kc_36, kc_37, kc_38, kc_39, kc_40, kc_41, kc_42, kc_43, kc_44, kc_45, kc_46, kc_207, kc_208, kc_209, kc_210, kc_211, kc_212, kc_213, kc_214, kc_215, kc_216, kc_377, kc_378, kc_379, kc_380, kc_381, kc_382, kc_383, kc_384, kc_385, kc_386, kc_387, kc_388, kc_389, kc_390, kc_391, kc_392, kc_393, kc_394, kc_395, kc_414, kc_415, kc_416, kc_417, kc_418, kn_1, kn_36, kn_39, kn_41, kn_42, kn_43, kn_44, kn_45, kn_46, kn_209, kn_211, kn_212, kn_213, kn_214, kn_215, kn_216, kn_378, kn_380, kn_382, kn_383, kn_385, kn_386, kn_388, kn_390, kn_392, kn_393, kn_395, kn_414, kn_415, kn_417, kn_418, c_reqShot' h.1.1 hx]
theorem c_take' {x : Int32} (h : CM s p P n D mv nr q b S) (hx : x < 0 ∨ (¬ x < 0 ∧ nI n ≤ x)) : fX11_take N 0 x (mk s) = some (.inr 1, mk s) := by
  unfold fX11_take bX11_take_0
  simp (decide := true) only [ob_s, cS_l, cS_r, gI_k, gR_k, pI_k, pR_k, cV_k, aI_k, tI_k, rZ_0, rZ_1, rZ_i, aR_24, aR_25, aZ_k, tZ_k, rf_3_6, rf_3_7, rf_3_8, rf_5_0, rf_5_1, rf_5_3, rf_5_4, rf_5_5, rf_5_7, rf_6_4, rf_6_11, rf_1_0, rf_1_1, rf_0_6, rf_9_7, rf_9_8, rf_8_0, rf_11_0, rf_11_5, rf_11_6, rf_11_7, rf_11_9, rf_11_10, rf_11_11, rf_11_12, rf_11_3, rf_11_4, Nat.reduceAdd, Nat.zero_add, kc_0, kc_1, kc_34, kc_35, kc_36, kc_37, kc_38, kc_39, kc_40, kc_41, kc_42, kc_43, kc_44, kc_45, kc_46, kc_207, kc_208, kc_209, kc_210, kc_211, kc_212, kc_213, kc_214, kc_215, kc_216, kc_377, kc_378, kc_379, kc_380, kc_381, kc_382, kc_383, kc_384, kc_385, kc_386, kc_387, kc_388, kc_389, kc_390, kc_391, kc_392, kc_393, kc_394, kc_395, kc_414, kc_415, kc_416, kc_417, kc_418, kn_1, kn_36, kn_39, kn_41, kn_42, kn_43, kn_44, kn_45, kn_46, kn_209, kn_211, kn_212, kn_213, kn_214, kn_215, kn_216, kn_378, kn_380, kn_382, kn_383, kn_385, kn_386, kn_388, kn_390, kn_392, kn_393, kn_395, kn_414, kn_415, kn_417, kn_418, c_reqShot' h.1.1 hx]
theorem c_forget (h : CM s p P n D mv nr q b S) (hn : n ≤ 8) (hna : S.2.2.1.1 ≤ 40) : ∃ s', fX11_forget N 0 (mk s) = some (.inl (), mk s') ∧ CM s' p P n D mv nr q b (pForget S) ∧ Fr cM s s' := by
  obtain ⟨h1, h2, h3, h4, h5⟩ := h.2
  have f1 : Fr (fun y j => y = 37 ∧ j = 6) s (sI s 37 6 0) := Fr_sI ⟨rfl, rfl⟩
  have hS1 := SAt_fr h2 f1 (fun y j g1 g2 => by omega)
  refine ⟨sI s 37 6 0, ?_, ⟨CR2_g h.1 hn f1 (fun y j g => by omega) hS1, Pm_fr h1 f1 (fun j => by omega), hS1, HsC_fr h3 h1 hna f1 (fun j => by omega) (by omega) (by intros; omega), ⟨sI_at _ _ _ _, fun i hi => absurd hi (Nat.not_lt_zero i)⟩, fun j hj => (f1.1 _ _ (by omega)).trans (h5 j hj)⟩, Fr_m f1 (fun y j g => by unfold cM; omega)⟩
  unfold fX11_forget bX11_forget_0
  simp (decide := true) only [ob_s, cS_l, cS_r, gI_k, gR_k, pI_k, pR_k, cV_k, aI_k, tI_k, rZ_0, rZ_1, rZ_i, aR_24, aR_25, aZ_k, tZ_k, rf_3_6, rf_3_7, rf_3_8, rf_5_0, rf_5_1, rf_5_3, rf_5_4, rf_5_5, rf_5_7, rf_6_4, rf_6_11, rf_1_0, rf_1_1, rf_0_6, rf_9_7, rf_9_8, rf_8_0, rf_11_0, rf_11_5, rf_11_6, rf_11_7, rf_11_9, rf_11_10, rf_11_11, rf_11_12, rf_11_3, rf_11_4, Nat.reduceAdd, Nat.zero_add, kc_0, kc_1, kc_34, kc_35, kc_36, kc_37, kc_38, kc_39, kc_40, kc_41, kc_42, kc_43, kc_44, kc_45, kc_46, kc_207, kc_208, kc_209, kc_210, kc_211, kc_212, kc_213, kc_214, kc_215, kc_216, kc_377, kc_378, kc_379, kc_380, kc_381, kc_382, kc_383, kc_384, kc_385, kc_386, kc_387, kc_388, kc_389, kc_390, kc_391, kc_392, kc_393, kc_394, kc_395, kc_414, kc_415, kc_416, kc_417, kc_418, kn_1, kn_36, kn_39, kn_41, kn_42, kn_43, kn_44, kn_45, kn_46, kn_209, kn_211, kn_212, kn_213, kn_214, kn_215, kn_216, kn_378, kn_380, kn_382, kn_383, kn_385, kn_386, kn_388, kn_390, kn_392, kn_393, kn_395, kn_414, kn_415, kn_417, kn_418]
/-- the image -/
def cI (x j : Nat) : Prop := (x = 0 ∧ j = 8) ∨ (207 ≤ x ∧ x < 377)
theorem c_image (hN1 : 1000 ≤ N) (Z : WS n D S) (hn : n ≤ 8) (h : CM s p P n D mv nr q b S) (hi : Pm s 207) : ∃ s', fX11_image N 0 (mk s) = some (.inl (), mk s') ∧ CM s' p P n D mv nr q b S ∧ ScC s' 207 S ∧ s'.1 0 8 = 1 ∧ Fr cI s s' := by
  obtain ⟨h1, h2, h3, h4, h5⟩ := h.2
  obtain ⟨s1, a1, a2, a3, a4, a5, a6, a7⟩ := c_scopy (N := N) hN1 (c := 37) (a := 207) (Or.inl rfl) (Or.inr rfl) (by omega) Z.2.1 (fun i hi => (Z.2.2.1 i hi).2.2.2) Z.1.2.2.2 Z.2.2.2.1 h1 hi h3 h2 h4
  have f2 : Fr (fun y j => y = 0 ∧ j = 8) s1 (sI s1 0 8 1) := Fr_sI ⟨rfl, rfl⟩
  have f12 : Fr cI s (sI s1 0 8 1) := Fr_t (Fr_m a7 (fun y j g => by unfold cD at g; unfold cI; omega)) (Fr_m f2 (fun y j g => by unfold cI; omega))
  have no : ∀ y j, 37 ≤ y → y < 207 → ¬ cI y j := fun y j g1 g2 g => by unfold cI at g; omega
  have hsc := ScC_fr h.2 Z.2.1 f12 no
  have hp := plA_le h.1.1.1
  have hp0 : 0 < p := by rcases h.1.1.1 with rfl | rfl <;> omega
  have n3 : ¬ cI 0 3 := fun g => by unfold cI at g; omega
  have nl : ∀ y j, 0 < y → y < 207 → ¬ cI y j := fun y j g1 g2 g => by unfold cI at g; omega
  have hcr : CR2 (sI s1 0 8 1) p P n D mv nr q b S.1 S.2.1 := ⟨⟨h.1.1.1, (f12.2.1 _ _ n3).trans h.1.1.2.1, CPl_fr h.1.1.2.2.1 hn f12 (fun x j g1 g2 _ => nl x j (by omega) (by omega)), hsc.2.1⟩, CRl_fr h.1.2 f12 (nl _ _ (by omega) (by omega)) (fun j => nl _ _ (by omega) (by omega)) (fun j => nl _ _ (by omega) (by omega))⟩
  refine ⟨sI s1 0 8 1, ?_, ⟨hcr, hsc⟩, ScC_fr ⟨a2, a4, a3, a5, fun j hj => (a6 j hj).trans (h5 j hj)⟩ Z.2.1 f2 (by intros; omega), sI_at _ _ _ _, f12⟩
  unfold fX11_image bX11_image_0
  simp (decide := true) only [ob_s, cS_l, cS_r, gI_k, gR_k, pI_k, pR_k, cV_k, aI_k, tI_k, rZ_0, rZ_1, rZ_i, aR_24, aR_25, aZ_k, tZ_k, rf_3_6, rf_3_7, rf_3_8, rf_5_0, rf_5_1, rf_5_3, rf_5_4, rf_5_5, rf_5_7, rf_6_4, rf_6_11, rf_1_0, rf_1_1, rf_0_6, rf_9_7, rf_9_8, rf_8_0, rf_11_0, rf_11_5, rf_11_6, rf_11_7, rf_11_9, rf_11_10, rf_11_11, rf_11_12, rf_11_3, rf_11_4, Nat.reduceAdd, Nat.zero_add, kc_0, kc_1, kc_34, kc_35, kc_36, kc_37, kc_38, kc_39, kc_40, kc_41, kc_42, kc_43, kc_44, kc_45, kc_46, kc_207, kc_208, kc_209, kc_210, kc_211, kc_212, kc_213, kc_214, kc_215, kc_216, kc_377, kc_378, kc_379, kc_380, kc_381, kc_382, kc_383, kc_384, kc_385, kc_386, kc_387, kc_388, kc_389, kc_390, kc_391, kc_392, kc_393, kc_394, kc_395, kc_414, kc_415, kc_416, kc_417, kc_418, kn_1, kn_36, kn_39, kn_41, kn_42, kn_43, kn_44, kn_45, kn_46, kn_209, kn_211, kn_212, kn_213, kn_214, kn_215, kn_216, kn_378, kn_380, kn_382, kn_383, kn_385, kn_386, kn_388, kn_390, kn_392, kn_393, kn_395, kn_414, kn_415, kn_417, kn_418, a1, pZ_k]
theorem c_restore (hN1 : 1000 ≤ N) (Z : WS n D S') (hn : n ≤ 8) (h : CM s p P n D mv nr q b S) (hi : ScC s 207 S') (h8 : s.1 0 8 = 1) : ∃ s', fX11_restore N 0 (mk s) = some (.inl 1, mk s') ∧ CM s' p P n D mv nr q b S' ∧ Fr cM s s' := by
  obtain ⟨h1, h2, h3, h4, h5⟩ := hi
  obtain ⟨s1, a1, a2, a3, a4, a5, a6, a7⟩ := c_scopy (N := N) hN1 (c := 207) (a := 37) (Or.inr rfl) (Or.inl rfl) (by omega) Z.2.1 (fun i hi => (Z.2.2.1 i hi).2.2.2) Z.1.2.2.2 Z.2.2.2.1 h1 h.2.1 h3 h2 h4
  have no : ∀ y j, y < 37 → ¬ cD 37 y j := fun y j g1 g => by unfold cD at g; omega
  have e8 : s1.1 0 8 = 1 := (a7.1 _ _ (no _ _ (by omega))).trans h8
  refine ⟨s1, ?_, ⟨CR2_g h.1 hn a7 no a4, a2, a4, a3, a5, fun j hj => (a6 j hj).trans (h5 j hj)⟩, Fr_m a7 (fun y j g => by unfold cD at g; unfold cM; omega)⟩
  unfold fX11_restore bX11_restore_0 bX11_restore_18
  simp (decide := true) only [ob_s, cS_l, cS_r, gI_k, gR_k, pI_k, pR_k, cV_k, aI_k, tI_k, rZ_0, rZ_1, rZ_i, aR_24, aR_25, aZ_k, tZ_k, rf_3_6, rf_3_7, rf_3_8, rf_5_0, rf_5_1, rf_5_3, rf_5_4, rf_5_5, rf_5_7, rf_6_4, rf_6_11, rf_1_0, rf_1_1, rf_0_6, rf_9_7, rf_9_8, rf_8_0, rf_11_0, rf_11_5, rf_11_6, rf_11_7, rf_11_9, rf_11_10, rf_11_11, rf_11_12, rf_11_3, rf_11_4, Nat.reduceAdd, Nat.zero_add, kc_0, kc_1, kc_34, kc_35, kc_36, kc_37, kc_38, kc_39, kc_40, kc_41, kc_42, kc_43, kc_44, kc_45, kc_46, kc_207, kc_208, kc_209, kc_210, kc_211, kc_212, kc_213, kc_214, kc_215, kc_216, kc_377, kc_378, kc_379, kc_380, kc_381, kc_382, kc_383, kc_384, kc_385, kc_386, kc_387, kc_388, kc_389, kc_390, kc_391, kc_392, kc_393, kc_394, kc_395, kc_414, kc_415, kc_416, kc_417, kc_418, kn_1, kn_36, kn_39, kn_41, kn_42, kn_43, kn_44, kn_45, kn_46, kn_209, kn_211, kn_212, kn_213, kn_214, kn_215, kn_216, kn_378, kn_380, kn_382, kn_383, kn_385, kn_386, kn_388, kn_390, kn_392, kn_393, kn_395, kn_414, kn_415, kn_417, kn_418, h8, if_false, a1, e8]
theorem c_restore0 (h8 : s.1 0 8 = 0) : fX11_restore N 0 (mk s) = some (.inl 0, mk s) := by
  unfold fX11_restore bX11_restore_0 bX11_restore_18
  simp (decide := true) only [ob_s, cS_l, cS_r, gI_k, gR_k, pI_k, pR_k, cV_k, aI_k, tI_k, rZ_0, rZ_1, rZ_i, aR_24, aR_25, aZ_k, tZ_k, rf_3_6, rf_3_7, rf_3_8, rf_5_0, rf_5_1, rf_5_3, rf_5_4, rf_5_5, rf_5_7, rf_6_4, rf_6_11, rf_1_0, rf_1_1, rf_0_6, rf_9_7, rf_9_8, rf_8_0, rf_11_0, rf_11_5, rf_11_6, rf_11_7, rf_11_9, rf_11_10, rf_11_11, rf_11_12, rf_11_3, rf_11_4, Nat.reduceAdd, Nat.zero_add, kc_0, kc_1, kc_34, kc_35, kc_36, kc_37, kc_38, kc_39, kc_40, kc_41, kc_42, kc_43, kc_44, kc_45, kc_46, kc_207, kc_208, kc_209, kc_210, kc_211, kc_212, kc_213, kc_214, kc_215, kc_216, kc_377, kc_378, kc_379, kc_380, kc_381, kc_382, kc_383, kc_384, kc_385, kc_386, kc_387, kc_388, kc_389, kc_390, kc_391, kc_392, kc_393, kc_394, kc_395, kc_414, kc_415, kc_416, kc_417, kc_418, kn_1, kn_36, kn_39, kn_41, kn_42, kn_43, kn_44, kn_45, kn_46, kn_209, kn_211, kn_212, kn_213, kn_214, kn_215, kn_216, kn_378, kn_380, kn_382, kn_383, kn_385, kn_386, kn_388, kn_390, kn_392, kn_393, kn_395, kn_414, kn_415, kn_417, kn_418, h8, if_true]
end AD
