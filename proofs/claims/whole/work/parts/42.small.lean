/- needs: 41.holes -/
/-! small questions, both sides: sky, why, ready, edge, shot, chances -/
theorem w1 {x : Int32} : (x < 0 ∨ (¬ x < 0 ∧ nI 2 ≤ x)) → ¬ (¬ x < 0 ∧ x ≤ 1) := fun h q => by
  rcases h with h | h
  · exact q.1 h
  · have h1 := h.2
    have h2 := q.2
    rw [show (1 : Int32) = nI 1 from rfl, i32_le, nI_toInt (by omega)] at h2
    rw [i32_le, nI_toInt (by omega)] at h1
    omega
section SM
variable {N : Nat} {s : sg} {K : Nat → Bool} {st : Nat → Int32} {P : pln} {p a n D mv E H k m w : Nat}
theorem r_isMin (W : Wp P n D mv) (h : RU s P st K) (hm : m < D) : fX12_isMinute N 419 (nI m) (mk (sI s 419 2 0)) = some (.inl 1, mk (sI s 419 2 0)) := by
  have hD := W.2.2.2.1
  have e1 : s.1 422 1 = nI D := (h.1 0 1 (by omega) (by omega)).trans W.2.2.2.2.1
  rw [m_isMinute]
  simp only [sI_c, Nat.reduceEqDiff, false_and, if_false]
  rw [e1, show (1 : Int32) = nI 1 from rfl, nI_sub (by omega), sb_pos ⟨nI_pos' (by omega), nI_le (by omega) (by omega)⟩]
  rfl
theorem r_isMin' (W : Wp P n D mv) (h : RU s P st K) {x : Int32} (hx : ¬ (0 ≤ x ∧ x ≤ nI D - 1)) : fX12_isMinute N 419 x (mk (sI s 419 2 0)) = some (.inl 0, mk (sI s 419 2 0)) := by
  have e1 : s.1 422 1 = nI D := (h.1 0 1 (by omega) (by omega)).trans W.2.2.2.2.1
  rw [m_isMinute]
  simp only [sI_c, Nat.reduceEqDiff, false_and, if_false]
  rw [e1, sb_neg hx]
theorem r_isShot (W : Wp P n D mv) (h : RU s P st K) (hk : k < n) : fX12_isShot N 419 (nI k) (mk (sI s 419 2 0)) = some (.inl 1, mk (sI s 419 2 0)) := by
  have hn := W.1
  have e0 : s.1 422 0 = nI n := (h.1 0 0 (by omega) (by omega)).trans W.2.1
  rw [m_isShot]
  simp only [sI_c, Nat.reduceEqDiff, false_and, if_false]
  rw [e0, show (1 : Int32) = nI 1 from rfl, nI_sub (by omega), sb_pos ⟨nI_pos' (by omega), nI_le (by omega) (by omega)⟩]
  rfl
theorem r_isShot' (W : Wp P n D mv) (h : RU s P st K) {x : Int32} (hx : ¬ (0 ≤ x ∧ x ≤ nI n - 1)) : fX12_isShot N 419 x (mk (sI s 419 2 0)) = some (.inl 0, mk (sI s 419 2 0)) := by
  have e0 : s.1 422 0 = nI n := (h.1 0 0 (by omega) (by omega)).trans W.2.1
  rw [m_isShot]
  simp only [sI_c, Nat.reduceEqDiff, false_and, if_false]
  rw [e0, sb_neg hx]
theorem bad2 (s : sg) : (sI (sI s 419 2 0) 419 2 1).1 419 2 = 1 ∧ Fr rQ s (sI (sI s 419 2 0) 419 2 1) := r_badF
def aSky (K : Nat → Bool) (D m w : Nat) : Int32 := if w = 0 then sk_i (K m) else nI (stays K D m)
theorem c_sky (hN1 : 1000 ≤ N) (h : CQ s p P n D mv st K) (hD : D ≤ 480) (hm : m < D) (hw : w ≤ 1) : ∃ s', fX11_sky N 0 (nI m) (nI w) (mk s) = some (.inl (aSky K D m w), mk s') ∧ Fr cQ s s' := by
  have hq := c_reqWhat (N := N) (s := s) (l := 1) hw (by omega)
  rw [show nI 1 = (1 : Int32) from rfl] at hq
  unfold fX11_sky bX11_sky_0 aSky
  simp (decide := true) only [ob_s, cS_l, cS_r, gI_k, gR_k, pI_k, pR_k, cV_k, aI_k, tI_k, rZ_0, rZ_1, rZ_i, aR_24, aR_25, aZ_k, tZ_k, rf_3_6, rf_3_7, rf_3_8, rf_5_0, rf_5_1, rf_5_3, rf_5_4, rf_5_5, rf_5_7, rf_6_4, rf_6_11, rf_1_0, rf_1_1, rf_0_6, rf_9_7, rf_9_8, rf_8_0, rf_11_0, rf_11_5, rf_11_6, rf_11_7, rf_11_9, rf_11_10, rf_11_11, rf_11_12, rf_11_3, rf_11_4, Nat.reduceAdd, Nat.zero_add, kc_0, kc_1, kc_34, kc_35, kc_36, kc_37, kc_38, kc_39, kc_40, kc_41, kc_42, kc_43, kc_44, kc_45, kc_46, kc_207, kc_208, kc_209, kc_210, kc_211, kc_212, kc_213, kc_214, kc_215, kc_216, kc_377, kc_378, kc_379, kc_380, kc_381, kc_382, kc_383, kc_384, kc_385, kc_386, kc_387, kc_388, kc_389, kc_390, kc_391, kc_392, kc_393, kc_394, kc_395, kc_414, kc_415, kc_416, kc_417, kc_418, kn_1, kn_36, kn_39, kn_41, kn_42, kn_43, kn_44, kn_45, kn_46, kn_209, kn_211, kn_212, kn_213, kn_214, kn_215, kn_216, kn_378, kn_380, kn_382, kn_383, kn_385, kn_386, kn_388, kn_390, kn_392, kn_393, kn_395, kn_414, kn_415, kn_417, kn_418, c_reqMin h hm hD, hq]
  rcases (show w = 0 ∨ w = 1 by omega) with rfl | rfl
  · refine ⟨s, ?_, Fr_r _ _⟩
    rw [if_neg (fun q => q rfl), if_pos rfl]
    have hO : skO 40 := ⟨rfl, rfl, rfl⟩
    simp (decide := true) only [ob_s, cS_l, cS_r, gI_k, gR_k, pI_k, pR_k, cV_k, aI_k, tI_k, rZ_0, rZ_1, rZ_i, aR_24, aR_25, aZ_k, tZ_k, rf_3_6, rf_3_7, rf_3_8, rf_5_0, rf_5_1, rf_5_3, rf_5_4, rf_5_5, rf_5_7, rf_6_4, rf_6_11, rf_1_0, rf_1_1, rf_0_6, rf_9_7, rf_9_8, rf_8_0, rf_11_0, rf_11_5, rf_11_6, rf_11_7, rf_11_9, rf_11_10, rf_11_11, rf_11_12, rf_11_3, rf_11_4, Nat.reduceAdd, Nat.zero_add, kc_0, kc_1, kc_34, kc_35, kc_36, kc_37, kc_38, kc_39, kc_40, kc_41, kc_42, kc_43, kc_44, kc_45, kc_46, kc_207, kc_208, kc_209, kc_210, kc_211, kc_212, kc_213, kc_214, kc_215, kc_216, kc_377, kc_378, kc_379, kc_380, kc_381, kc_382, kc_383, kc_384, kc_385, kc_386, kc_387, kc_388, kc_389, kc_390, kc_391, kc_392, kc_393, kc_394, kc_395, kc_414, kc_415, kc_416, kc_417, kc_418, kn_1, kn_36, kn_39, kn_41, kn_42, kn_43, kn_44, kn_45, kn_46, kn_209, kn_211, kn_212, kn_213, kn_214, kn_215, kn_216, kn_378, kn_380, kn_382, kn_383, kn_385, kn_386, kn_388, kn_390, kn_392, kn_393, kn_395, kn_414, kn_415, kn_417, kn_418, c_isSun hO h.2.2.2.2.2.2.2.2.2.2.2 (show m < 480 by omega), sk_0]
    cases K m <;> rfl
  · obtain ⟨s1, a1, a2, a3⟩ := c_look (N := N) hN1 h hD
    refine ⟨s1, ?_, Fr_m a3 (fun x j => oD_cQ)⟩
    have i1 : inB (nI m) 481 = true := inA_nI (by omega) (by omega)
    rw [if_pos (show ¬ nI 1 = 0 by decide), if_neg (show ¬ (1 : Nat) = 0 by omega)]
    simp (decide := true) only [ob_s, cS_l, cS_r, gI_k, gR_k, pI_k, pR_k, cV_k, aI_k, tI_k, rZ_0, rZ_1, rZ_i, aR_24, aR_25, aZ_k, tZ_k, rf_3_6, rf_3_7, rf_3_8, rf_5_0, rf_5_1, rf_5_3, rf_5_4, rf_5_5, rf_5_7, rf_6_4, rf_6_11, rf_1_0, rf_1_1, rf_0_6, rf_9_7, rf_9_8, rf_8_0, rf_11_0, rf_11_5, rf_11_6, rf_11_7, rf_11_9, rf_11_10, rf_11_11, rf_11_12, rf_11_3, rf_11_4, Nat.reduceAdd, Nat.zero_add, kc_0, kc_1, kc_34, kc_35, kc_36, kc_37, kc_38, kc_39, kc_40, kc_41, kc_42, kc_43, kc_44, kc_45, kc_46, kc_207, kc_208, kc_209, kc_210, kc_211, kc_212, kc_213, kc_214, kc_215, kc_216, kc_377, kc_378, kc_379, kc_380, kc_381, kc_382, kc_383, kc_384, kc_385, kc_386, kc_387, kc_388, kc_389, kc_390, kc_391, kc_392, kc_393, kc_394, kc_395, kc_414, kc_415, kc_416, kc_417, kc_418, kn_1, kn_36, kn_39, kn_41, kn_42, kn_43, kn_44, kn_45, kn_46, kn_209, kn_211, kn_212, kn_213, kn_214, kn_215, kn_216, kn_378, kn_380, kn_382, kn_383, kn_385, kn_386, kn_388, kn_390, kn_392, kn_393, kn_395, kn_414, kn_415, kn_417, kn_418, a1, i1, nI_clamp (show m < 2 ^ 31 by omega), (a2.2.2.2 m (by omega) hm).1]
theorem c_sky' {x y : Int32} (h : CQ s p P n D mv st K) (hD : D ≤ 480) (hx : (x < 0 ∨ (¬ x < 0 ∧ nI D ≤ x)) ∨ (∃ m, m < D ∧ x = nI m) ∧ (y < 0 ∨ (¬ y < 0 ∧ nI 2 ≤ y))) : fX11_sky N 0 x y (mk s) = some (.inr 1, mk s) := by
  unfold fX11_sky bX11_sky_0
  rcases hx with hx | ⟨⟨m, hm, rfl⟩, hy⟩
  · simp (decide := true) only [ob_s, cS_l, cS_r, gI_k, gR_k, pI_k, pR_k, cV_k, aI_k, tI_k, rZ_0, rZ_1, rZ_i, aR_24, aR_25, aZ_k, tZ_k, rf_3_6, rf_3_7, rf_3_8, rf_5_0, rf_5_1, rf_5_3, rf_5_4, rf_5_5, rf_5_7, rf_6_4, rf_6_11, rf_1_0, rf_1_1, rf_0_6, rf_9_7, rf_9_8, rf_8_0, rf_11_0, rf_11_5, rf_11_6, rf_11_7, rf_11_9, rf_11_10, rf_11_11, rf_11_12, rf_11_3, rf_11_4, Nat.reduceAdd, Nat.zero_add, kc_0, kc_1, kc_34, kc_35, kc_36, kc_37, kc_38, kc_39, kc_40, kc_41, kc_42, kc_43, kc_44, kc_45, kc_46, kc_207, kc_208, kc_209, kc_210, kc_211, kc_212, kc_213, kc_214, kc_215, kc_216, kc_377, kc_378, kc_379, kc_380, kc_381, kc_382, kc_383, kc_384, kc_385, kc_386, kc_387, kc_388, kc_389, kc_390, kc_391, kc_392, kc_393, kc_394, kc_395, kc_414, kc_415, kc_416, kc_417, kc_418, kn_1, kn_36, kn_39, kn_41, kn_42, kn_43, kn_44, kn_45, kn_46, kn_209, kn_211, kn_212, kn_213, kn_214, kn_215, kn_216, kn_378, kn_380, kn_382, kn_383, kn_385, kn_386, kn_388, kn_390, kn_392, kn_393, kn_395, kn_414, kn_415, kn_417, kn_418, c_reqMin' h hx]
  · have hq := c_reqWhat' (N := N) (s := s) (l := 1) hy (by omega)
    rw [show nI 1 = (1 : Int32) from rfl] at hq
    simp (decide := true) only [ob_s, cS_l, cS_r, gI_k, gR_k, pI_k, pR_k, cV_k, aI_k, tI_k, rZ_0, rZ_1, rZ_i, aR_24, aR_25, aZ_k, tZ_k, rf_3_6, rf_3_7, rf_3_8, rf_5_0, rf_5_1, rf_5_3, rf_5_4, rf_5_5, rf_5_7, rf_6_4, rf_6_11, rf_1_0, rf_1_1, rf_0_6, rf_9_7, rf_9_8, rf_8_0, rf_11_0, rf_11_5, rf_11_6, rf_11_7, rf_11_9, rf_11_10, rf_11_11, rf_11_12, rf_11_3, rf_11_4, Nat.reduceAdd, Nat.zero_add, kc_0, kc_1, kc_34, kc_35, kc_36, kc_37, kc_38, kc_39, kc_40, kc_41, kc_42, kc_43, kc_44, kc_45, kc_46, kc_207, kc_208, kc_209, kc_210, kc_211, kc_212, kc_213, kc_214, kc_215, kc_216, kc_377, kc_378, kc_379, kc_380, kc_381, kc_382, kc_383, kc_384, kc_385, kc_386, kc_387, kc_388, kc_389, kc_390, kc_391, kc_392, kc_393, kc_394, kc_395, kc_414, kc_415, kc_416, kc_417, kc_418, kn_1, kn_36, kn_39, kn_41, kn_42, kn_43, kn_44, kn_45, kn_46, kn_209, kn_211, kn_212, kn_213, kn_214, kn_215, kn_216, kn_378, kn_380, kn_382, kn_383, kn_385, kn_386, kn_388, kn_390, kn_392, kn_393, kn_395, kn_414, kn_415, kn_417, kn_418, c_reqMin h hm hD, hq]
theorem r_sky (hN1 : 1000 ≤ N) (W : Wp P n D mv) (h : RU s P st K) (hm : m < D) (hw : w ≤ 1) : ∃ s', fX12_sky N 419 (nI m) (nI w) (mk s) = some (.inl (aSky K D m w), mk s') ∧ s'.1 419 2 = 0 ∧ Fr rQ s s' := by
  have hD := W.2.2.2.1
  obtain ⟨b1, b2, b3⟩ := r_begin h W
  refine ⟨_, ?_, b2, b3⟩
  have im : inB (nI m) 960 = true := inA_nI (by omega) (by omega)
  unfold fX12_sky bX12_sky_0 aSky
  simp (decide := true) only [ob_s, cS_l, cS_r, gI_k, gR_k, pI_k, pR_k, cV_k, aI_k, tI_k, rZ_0, rZ_1, rZ_i, rf_12_0, rf_12_1, rf_12_3, rf_12_4, rf_12_5, rf_12_6, rf_12_7, rf_12_8, rf_12_9, rf_12_10, rf_12_11, rf_12_12, rf_12_13, rf_12_14, rf_12_15, rf_12_26, rf_12_27, rf_12_31, rf_12_32, rf_12_33, rf_12_34, rf_12_41, rf_12_44, rf_12_47, rf_12_48, rf_12_49, rf_12_51, rf_12_55, rf_12_56, rf_12_57, rf_12_58, rf_12_59, rf_12_60, Nat.reduceAdd, kc_419, kc_420, kc_421, kc_422, kc_423, kc_424, kc_425, kc_426, kc_427, kc_428, kc_429, kc_430, kc_431, kc_432, kc_433, kc_434, kc_435, kc_436, kc_437, kc_438, kc_439, kc_440, kc_441, kc_442, kc_443, kc_444, kc_445, kc_446, kc_447, kc_448, kc_449, kc_450, kc_451, kc_452, kc_453, kn_420, kn_421, kn_422, kn_423, kn_424, kn_425, kn_426, kn_427, kn_428, kn_429, kn_430, kn_431, kn_432, kn_433, kn_434, kn_435, kn_436, kn_437, kn_438, kn_439, kn_440, kn_441, kn_442, kn_443, kn_444, kn_445, kn_446, kn_447, kn_448, kn_449, kn_450, kn_451, kn_452, kn_453, r_isMin W h hm]
  rw [if_neg (by decide), if_neg (nI_pos (by omega)), if_pos (show nI w ≤ 1 from nI_le (b := 1) hw (by omega))]
  simp (decide := true) only [ob_s, cS_l, cS_r, gI_k, gR_k, pI_k, pR_k, cV_k, aI_k, tI_k, rZ_0, rZ_1, rZ_i, rf_12_0, rf_12_1, rf_12_3, rf_12_4, rf_12_5, rf_12_6, rf_12_7, rf_12_8, rf_12_9, rf_12_10, rf_12_11, rf_12_12, rf_12_13, rf_12_14, rf_12_15, rf_12_26, rf_12_27, rf_12_31, rf_12_32, rf_12_33, rf_12_34, rf_12_41, rf_12_44, rf_12_47, rf_12_48, rf_12_49, rf_12_51, rf_12_55, rf_12_56, rf_12_57, rf_12_58, rf_12_59, rf_12_60, Nat.reduceAdd, kc_419, kc_420, kc_421, kc_422, kc_423, kc_424, kc_425, kc_426, kc_427, kc_428, kc_429, kc_430, kc_431, kc_432, kc_433, kc_434, kc_435, kc_436, kc_437, kc_438, kc_439, kc_440, kc_441, kc_442, kc_443, kc_444, kc_445, kc_446, kc_447, kc_448, kc_449, kc_450, kc_451, kc_452, kc_453, kn_420, kn_421, kn_422, kn_423, kn_424, kn_425, kn_426, kn_427, kn_428, kn_429, kn_430, kn_431, kn_432, kn_433, kn_434, kn_435, kn_436, kn_437, kn_438, kn_439, kn_440, kn_441, kn_442, kn_443, kn_444, kn_445, kn_446, kn_447, kn_448, kn_449, kn_450, kn_451, kn_452, kn_453, m_set]
  simp (decide := true) only [sI_c, Nat.reduceEqDiff, false_and, if_false]
  rcases (show w = 0 ∨ w = 1 by omega) with rfl | rfl
  · rw [if_neg (fun q => q rfl), if_pos rfl]
    simp (decide := true) only [ob_s, cS_l, cS_r, gI_k, gR_k, pI_k, pR_k, cV_k, aI_k, tI_k, rZ_0, rZ_1, rZ_i, rf_12_0, rf_12_1, rf_12_3, rf_12_4, rf_12_5, rf_12_6, rf_12_7, rf_12_8, rf_12_9, rf_12_10, rf_12_11, rf_12_12, rf_12_13, rf_12_14, rf_12_15, rf_12_26, rf_12_27, rf_12_31, rf_12_32, rf_12_33, rf_12_34, rf_12_41, rf_12_44, rf_12_47, rf_12_48, rf_12_49, rf_12_51, rf_12_55, rf_12_56, rf_12_57, rf_12_58, rf_12_59, rf_12_60, Nat.reduceAdd, kc_419, kc_420, kc_421, kc_422, kc_423, kc_424, kc_425, kc_426, kc_427, kc_428, kc_429, kc_430, kc_431, kc_432, kc_433, kc_434, kc_435, kc_436, kc_437, kc_438, kc_439, kc_440, kc_441, kc_442, kc_443, kc_444, kc_445, kc_446, kc_447, kc_448, kc_449, kc_450, kc_451, kc_452, kc_453, kn_420, kn_421, kn_422, kn_423, kn_424, kn_425, kn_426, kn_427, kn_428, kn_429, kn_430, kn_431, kn_432, kn_433, kn_434, kn_435, kn_436, kn_437, kn_438, kn_439, kn_440, kn_441, kn_442, kn_443, kn_444, kn_445, kn_446, kn_447, kn_448, kn_449, kn_450, kn_451, kn_452, kn_453, im, nI_clamp (show m < 2 ^ 31 by omega), b1.2.2.1 m (by omega)]
  · rw [if_pos (show ¬ nI 1 = 0 by decide), if_neg (show ¬ (1 : Nat) = 0 by omega)]
    simp (decide := true) only [ob_s, cS_l, cS_r, gI_k, gR_k, pI_k, pR_k, cV_k, aI_k, tI_k, rZ_0, rZ_1, rZ_i, rf_12_0, rf_12_1, rf_12_3, rf_12_4, rf_12_5, rf_12_6, rf_12_7, rf_12_8, rf_12_9, rf_12_10, rf_12_11, rf_12_12, rf_12_13, rf_12_14, rf_12_15, rf_12_26, rf_12_27, rf_12_31, rf_12_32, rf_12_33, rf_12_34, rf_12_41, rf_12_44, rf_12_47, rf_12_48, rf_12_49, rf_12_51, rf_12_55, rf_12_56, rf_12_57, rf_12_58, rf_12_59, rf_12_60, Nat.reduceAdd, kc_419, kc_420, kc_421, kc_422, kc_423, kc_424, kc_425, kc_426, kc_427, kc_428, kc_429, kc_430, kc_431, kc_432, kc_433, kc_434, kc_435, kc_436, kc_437, kc_438, kc_439, kc_440, kc_441, kc_442, kc_443, kc_444, kc_445, kc_446, kc_447, kc_448, kc_449, kc_450, kc_451, kc_452, kc_453, kn_420, kn_421, kn_422, kn_423, kn_424, kn_425, kn_426, kn_427, kn_428, kn_429, kn_430, kn_431, kn_432, kn_433, kn_434, kn_435, kn_436, kn_437, kn_438, kn_439, kn_440, kn_441, kn_442, kn_443, kn_444, kn_445, kn_446, kn_447, kn_448, kn_449, kn_450, kn_451, kn_452, kn_453, r_stays hN1 b1 hD hm]
theorem r_sky' {x y : Int32} (W : Wp P n D mv) (h : RU s P st K) (hx : ¬ (0 ≤ x ∧ x ≤ nI D - 1) ∨ (∃ m, m < D ∧ x = nI m) ∧ (y < 0 ∨ (¬ y < 0 ∧ nI 2 ≤ y))) : fX12_sky N 419 x y (mk s) = some (.inl 0, mk (sI (sI s 419 2 0) 419 2 1)) := by
  unfold fX12_sky bX12_sky_0 bX12_sky_22
  rcases hx with hx | ⟨⟨m, hm, rfl⟩, hy⟩
  · simp (decide := true) only [ob_s, cS_l, cS_r, gI_k, gR_k, pI_k, pR_k, cV_k, aI_k, tI_k, rZ_0, rZ_1, rZ_i, rf_12_0, rf_12_1, rf_12_3, rf_12_4, rf_12_5, rf_12_6, rf_12_7, rf_12_8, rf_12_9, rf_12_10, rf_12_11, rf_12_12, rf_12_13, rf_12_14, rf_12_15, rf_12_26, rf_12_27, rf_12_31, rf_12_32, rf_12_33, rf_12_34, rf_12_41, rf_12_44, rf_12_47, rf_12_48, rf_12_49, rf_12_51, rf_12_55, rf_12_56, rf_12_57, rf_12_58, rf_12_59, rf_12_60, Nat.reduceAdd, kc_419, kc_420, kc_421, kc_422, kc_423, kc_424, kc_425, kc_426, kc_427, kc_428, kc_429, kc_430, kc_431, kc_432, kc_433, kc_434, kc_435, kc_436, kc_437, kc_438, kc_439, kc_440, kc_441, kc_442, kc_443, kc_444, kc_445, kc_446, kc_447, kc_448, kc_449, kc_450, kc_451, kc_452, kc_453, kn_420, kn_421, kn_422, kn_423, kn_424, kn_425, kn_426, kn_427, kn_428, kn_429, kn_430, kn_431, kn_432, kn_433, kn_434, kn_435, kn_436, kn_437, kn_438, kn_439, kn_440, kn_441, kn_442, kn_443, kn_444, kn_445, kn_446, kn_447, kn_448, kn_449, kn_450, kn_451, kn_452, kn_453, r_isMin' W h hx, r_bad1, if_true]
  · simp (decide := true) only [ob_s, cS_l, cS_r, gI_k, gR_k, pI_k, pR_k, cV_k, aI_k, tI_k, rZ_0, rZ_1, rZ_i, rf_12_0, rf_12_1, rf_12_3, rf_12_4, rf_12_5, rf_12_6, rf_12_7, rf_12_8, rf_12_9, rf_12_10, rf_12_11, rf_12_12, rf_12_13, rf_12_14, rf_12_15, rf_12_26, rf_12_27, rf_12_31, rf_12_32, rf_12_33, rf_12_34, rf_12_41, rf_12_44, rf_12_47, rf_12_48, rf_12_49, rf_12_51, rf_12_55, rf_12_56, rf_12_57, rf_12_58, rf_12_59, rf_12_60, Nat.reduceAdd, kc_419, kc_420, kc_421, kc_422, kc_423, kc_424, kc_425, kc_426, kc_427, kc_428, kc_429, kc_430, kc_431, kc_432, kc_433, kc_434, kc_435, kc_436, kc_437, kc_438, kc_439, kc_440, kc_441, kc_442, kc_443, kc_444, kc_445, kc_446, kc_447, kc_448, kc_449, kc_450, kc_451, kc_452, kc_453, kn_420, kn_421, kn_422, kn_423, kn_424, kn_425, kn_426, kn_427, kn_428, kn_429, kn_430, kn_431, kn_432, kn_433, kn_434, kn_435, kn_436, kn_437, kn_438, kn_439, kn_440, kn_441, kn_442, kn_443, kn_444, kn_445, kn_446, kn_447, kn_448, kn_449, kn_450, kn_451, kn_452, kn_453, r_isMin W h hm, r_bad1, if_false]
    rcases hy with hy | hy
    · rw [if_pos hy]
    · rw [if_neg hy.1, if_neg (fun q => w1 (Or.inr hy) ⟨hy.1, q⟩)]
theorem c_why (hN1 : 1000 ≤ N) (W : Wp P n D mv) (Z : Ws st n D) (h : CQ s p P n D mv st K) (hk : k < n) (hm : m < D) : ∃ s', fX11_why N 0 (nI k) (nI m) (mk s) = some (.inl (sWhy P st K D k m), mk s') ∧ Fr cQ s s' := by
  have hn8 := W.1
  have hD := W.2.2.2.1
  obtain ⟨s1, a1, a2, a3⟩ := c_look (N := N) hN1 h hD
  have f1 : Fr cQ s s1 := Fr_m a3 (fun x j => oD_cQ)
  have h' := CQ_fr h hn8 f1
  refine ⟨s1, ?_, f1⟩
  have hh := c_hind (N := N) (k := k) (m := m) oo_381 (stA_O (Or.inl rfl)) (plA_O h.1) a2 h'.2.2.2 Z.2.2.2 Z.2.1 (by omega) (h'.2.2.1.2.2.2 k hk) (W.2.2.2.2.2.2.2 k hk).1 hm hD
  unfold fX11_why bX11_why_0
  simp (decide := true) only [ob_s, cS_l, cS_r, gI_k, gR_k, pI_k, pR_k, cV_k, aI_k, tI_k, rZ_0, rZ_1, rZ_i, aR_24, aR_25, aZ_k, tZ_k, rf_3_6, rf_3_7, rf_3_8, rf_5_0, rf_5_1, rf_5_3, rf_5_4, rf_5_5, rf_5_7, rf_6_4, rf_6_11, rf_1_0, rf_1_1, rf_0_6, rf_9_7, rf_9_8, rf_8_0, rf_11_0, rf_11_5, rf_11_6, rf_11_7, rf_11_9, rf_11_10, rf_11_11, rf_11_12, rf_11_3, rf_11_4, Nat.reduceAdd, Nat.zero_add, kc_0, kc_1, kc_34, kc_35, kc_36, kc_37, kc_38, kc_39, kc_40, kc_41, kc_42, kc_43, kc_44, kc_45, kc_46, kc_207, kc_208, kc_209, kc_210, kc_211, kc_212, kc_213, kc_214, kc_215, kc_216, kc_377, kc_378, kc_379, kc_380, kc_381, kc_382, kc_383, kc_384, kc_385, kc_386, kc_387, kc_388, kc_389, kc_390, kc_391, kc_392, kc_393, kc_394, kc_395, kc_414, kc_415, kc_416, kc_417, kc_418, kn_1, kn_36, kn_39, kn_41, kn_42, kn_43, kn_44, kn_45, kn_46, kn_209, kn_211, kn_212, kn_213, kn_214, kn_215, kn_216, kn_378, kn_380, kn_382, kn_383, kn_385, kn_386, kn_388, kn_390, kn_392, kn_393, kn_395, kn_414, kn_415, kn_417, kn_418, c_reqShot h hk hn8, c_reqMin h hm hD, a1, hh]
theorem c_why' {x y : Int32} (h : CQ s p P n D mv st K) (hn : n ≤ 8) (hx : (x < 0 ∨ (¬ x < 0 ∧ nI n ≤ x)) ∨ (∃ k, k < n ∧ x = nI k) ∧ (y < 0 ∨ (¬ y < 0 ∧ nI D ≤ y))) : fX11_why N 0 x y (mk s) = some (.inr 1, mk s) := by
  unfold fX11_why bX11_why_0
  rcases hx with hx | ⟨⟨m, hm, rfl⟩, hy⟩
  · simp (decide := true) only [ob_s, cS_l, cS_r, gI_k, gR_k, pI_k, pR_k, cV_k, aI_k, tI_k, rZ_0, rZ_1, rZ_i, aR_24, aR_25, aZ_k, tZ_k, rf_3_6, rf_3_7, rf_3_8, rf_5_0, rf_5_1, rf_5_3, rf_5_4, rf_5_5, rf_5_7, rf_6_4, rf_6_11, rf_1_0, rf_1_1, rf_0_6, rf_9_7, rf_9_8, rf_8_0, rf_11_0, rf_11_5, rf_11_6, rf_11_7, rf_11_9, rf_11_10, rf_11_11, rf_11_12, rf_11_3, rf_11_4, Nat.reduceAdd, Nat.zero_add, kc_0, kc_1, kc_34, kc_35, kc_36, kc_37, kc_38, kc_39, kc_40, kc_41, kc_42, kc_43, kc_44, kc_45, kc_46, kc_207, kc_208, kc_209, kc_210, kc_211, kc_212, kc_213, kc_214, kc_215, kc_216, kc_377, kc_378, kc_379, kc_380, kc_381, kc_382, kc_383, kc_384, kc_385, kc_386, kc_387, kc_388, kc_389, kc_390, kc_391, kc_392, kc_393, kc_394, kc_395, kc_414, kc_415, kc_416, kc_417, kc_418, kn_1, kn_36, kn_39, kn_41, kn_42, kn_43, kn_44, kn_45, kn_46, kn_209, kn_211, kn_212, kn_213, kn_214, kn_215, kn_216, kn_378, kn_380, kn_382, kn_383, kn_385, kn_386, kn_388, kn_390, kn_392, kn_393, kn_395, kn_414, kn_415, kn_417, kn_418, c_reqShot' h hx]
  · simp (decide := true) only [ob_s, cS_l, cS_r, gI_k, gR_k, pI_k, pR_k, cV_k, aI_k, tI_k, rZ_0, rZ_1, rZ_i, aR_24, aR_25, aZ_k, tZ_k, rf_3_6, rf_3_7, rf_3_8, rf_5_0, rf_5_1, rf_5_3, rf_5_4, rf_5_5, rf_5_7, rf_6_4, rf_6_11, rf_1_0, rf_1_1, rf_0_6, rf_9_7, rf_9_8, rf_8_0, rf_11_0, rf_11_5, rf_11_6, rf_11_7, rf_11_9, rf_11_10, rf_11_11, rf_11_12, rf_11_3, rf_11_4, Nat.reduceAdd, Nat.zero_add, kc_0, kc_1, kc_34, kc_35, kc_36, kc_37, kc_38, kc_39, kc_40, kc_41, kc_42, kc_43, kc_44, kc_45, kc_46, kc_207, kc_208, kc_209, kc_210, kc_211, kc_212, kc_213, kc_214, kc_215, kc_216, kc_377, kc_378, kc_379, kc_380, kc_381, kc_382, kc_383, kc_384, kc_385, kc_386, kc_387, kc_388, kc_389, kc_390, kc_391, kc_392, kc_393, kc_394, kc_395, kc_414, kc_415, kc_416, kc_417, kc_418, kn_1, kn_36, kn_39, kn_41, kn_42, kn_43, kn_44, kn_45, kn_46, kn_209, kn_211, kn_212, kn_213, kn_214, kn_215, kn_216, kn_378, kn_380, kn_382, kn_383, kn_385, kn_386, kn_388, kn_390, kn_392, kn_393, kn_395, kn_414, kn_415, kn_417, kn_418, c_reqShot h hm hn, c_reqMin' h hy]
theorem r_whyQ (hN1 : 1000 ≤ N) (W : Wp P n D mv) (h : RU s P st K) (hk : k < n) (hm : m < D) : ∃ s', fX12_why N 419 (nI k) (nI m) (mk s) = some (.inl (sWhy P st K D k m), mk s') ∧ s'.1 419 2 = 0 ∧ Fr rQ s s' := by
  have hn8 := W.1
  have hD := W.2.2.2.1
  obtain ⟨b1, b2, b3⟩ := r_begin h W
  refine ⟨_, ?_, b2, b3⟩
  unfold fX12_why bX12_why_0
  simp (decide := true) only [ob_s, cS_l, cS_r, gI_k, gR_k, pI_k, pR_k, cV_k, aI_k, tI_k, rZ_0, rZ_1, rZ_i, rf_12_0, rf_12_1, rf_12_3, rf_12_4, rf_12_5, rf_12_6, rf_12_7, rf_12_8, rf_12_9, rf_12_10, rf_12_11, rf_12_12, rf_12_13, rf_12_14, rf_12_15, rf_12_26, rf_12_27, rf_12_31, rf_12_32, rf_12_33, rf_12_34, rf_12_41, rf_12_44, rf_12_47, rf_12_48, rf_12_49, rf_12_51, rf_12_55, rf_12_56, rf_12_57, rf_12_58, rf_12_59, rf_12_60, Nat.reduceAdd, kc_419, kc_420, kc_421, kc_422, kc_423, kc_424, kc_425, kc_426, kc_427, kc_428, kc_429, kc_430, kc_431, kc_432, kc_433, kc_434, kc_435, kc_436, kc_437, kc_438, kc_439, kc_440, kc_441, kc_442, kc_443, kc_444, kc_445, kc_446, kc_447, kc_448, kc_449, kc_450, kc_451, kc_452, kc_453, kn_420, kn_421, kn_422, kn_423, kn_424, kn_425, kn_426, kn_427, kn_428, kn_429, kn_430, kn_431, kn_432, kn_433, kn_434, kn_435, kn_436, kn_437, kn_438, kn_439, kn_440, kn_441, kn_442, kn_443, kn_444, kn_445, kn_446, kn_447, kn_448, kn_449, kn_450, kn_451, kn_452, kn_453, r_isShot W h hk, r_isMin W h hm, if_false, if_true, m_set]
  simp (decide := true) only [sI_c, Nat.reduceEqDiff, false_and, if_false]
  simp (decide := true) only [ob_s, cS_l, cS_r, gI_k, gR_k, pI_k, pR_k, cV_k, aI_k, tI_k, rZ_0, rZ_1, rZ_i, rf_12_0, rf_12_1, rf_12_3, rf_12_4, rf_12_5, rf_12_6, rf_12_7, rf_12_8, rf_12_9, rf_12_10, rf_12_11, rf_12_12, rf_12_13, rf_12_14, rf_12_15, rf_12_26, rf_12_27, rf_12_31, rf_12_32, rf_12_33, rf_12_34, rf_12_41, rf_12_44, rf_12_47, rf_12_48, rf_12_49, rf_12_51, rf_12_55, rf_12_56, rf_12_57, rf_12_58, rf_12_59, rf_12_60, Nat.reduceAdd, kc_419, kc_420, kc_421, kc_422, kc_423, kc_424, kc_425, kc_426, kc_427, kc_428, kc_429, kc_430, kc_431, kc_432, kc_433, kc_434, kc_435, kc_436, kc_437, kc_438, kc_439, kc_440, kc_441, kc_442, kc_443, kc_444, kc_445, kc_446, kc_447, kc_448, kc_449, kc_450, kc_451, kc_452, kc_453, kn_420, kn_421, kn_422, kn_423, kn_424, kn_425, kn_426, kn_427, kn_428, kn_429, kn_430, kn_431, kn_432, kn_433, kn_434, kn_435, kn_436, kn_437, kn_438, kn_439, kn_440, kn_441, kn_442, kn_443, kn_444, kn_445, kn_446, kn_447, kn_448, kn_449, kn_450, kn_451, kn_452, kn_453, r_why b1 (show k < 8 by omega) (show m < 480 by omega)]
theorem r_whyQ' {x y : Int32} (W : Wp P n D mv) (h : RU s P st K) (hx : ¬ (0 ≤ x ∧ x ≤ nI n - 1) ∨ (∃ k, k < n ∧ x = nI k) ∧ ¬ (0 ≤ y ∧ y ≤ nI D - 1)) : fX12_why N 419 x y (mk s) = some (.inl 0, mk (sI (sI s 419 2 0) 419 2 1)) := by
  unfold fX12_why bX12_why_0 bX12_why_21
  rcases hx with hx | ⟨⟨m, hm, rfl⟩, hy⟩
  · simp (decide := true) only [ob_s, cS_l, cS_r, gI_k, gR_k, pI_k, pR_k, cV_k, aI_k, tI_k, rZ_0, rZ_1, rZ_i, rf_12_0, rf_12_1, rf_12_3, rf_12_4, rf_12_5, rf_12_6, rf_12_7, rf_12_8, rf_12_9, rf_12_10, rf_12_11, rf_12_12, rf_12_13, rf_12_14, rf_12_15, rf_12_26, rf_12_27, rf_12_31, rf_12_32, rf_12_33, rf_12_34, rf_12_41, rf_12_44, rf_12_47, rf_12_48, rf_12_49, rf_12_51, rf_12_55, rf_12_56, rf_12_57, rf_12_58, rf_12_59, rf_12_60, Nat.reduceAdd, kc_419, kc_420, kc_421, kc_422, kc_423, kc_424, kc_425, kc_426, kc_427, kc_428, kc_429, kc_430, kc_431, kc_432, kc_433, kc_434, kc_435, kc_436, kc_437, kc_438, kc_439, kc_440, kc_441, kc_442, kc_443, kc_444, kc_445, kc_446, kc_447, kc_448, kc_449, kc_450, kc_451, kc_452, kc_453, kn_420, kn_421, kn_422, kn_423, kn_424, kn_425, kn_426, kn_427, kn_428, kn_429, kn_430, kn_431, kn_432, kn_433, kn_434, kn_435, kn_436, kn_437, kn_438, kn_439, kn_440, kn_441, kn_442, kn_443, kn_444, kn_445, kn_446, kn_447, kn_448, kn_449, kn_450, kn_451, kn_452, kn_453, r_isShot' W h hx, r_bad1, if_true]
  · simp (decide := true) only [ob_s, cS_l, cS_r, gI_k, gR_k, pI_k, pR_k, cV_k, aI_k, tI_k, rZ_0, rZ_1, rZ_i, rf_12_0, rf_12_1, rf_12_3, rf_12_4, rf_12_5, rf_12_6, rf_12_7, rf_12_8, rf_12_9, rf_12_10, rf_12_11, rf_12_12, rf_12_13, rf_12_14, rf_12_15, rf_12_26, rf_12_27, rf_12_31, rf_12_32, rf_12_33, rf_12_34, rf_12_41, rf_12_44, rf_12_47, rf_12_48, rf_12_49, rf_12_51, rf_12_55, rf_12_56, rf_12_57, rf_12_58, rf_12_59, rf_12_60, Nat.reduceAdd, kc_419, kc_420, kc_421, kc_422, kc_423, kc_424, kc_425, kc_426, kc_427, kc_428, kc_429, kc_430, kc_431, kc_432, kc_433, kc_434, kc_435, kc_436, kc_437, kc_438, kc_439, kc_440, kc_441, kc_442, kc_443, kc_444, kc_445, kc_446, kc_447, kc_448, kc_449, kc_450, kc_451, kc_452, kc_453, kn_420, kn_421, kn_422, kn_423, kn_424, kn_425, kn_426, kn_427, kn_428, kn_429, kn_430, kn_431, kn_432, kn_433, kn_434, kn_435, kn_436, kn_437, kn_438, kn_439, kn_440, kn_441, kn_442, kn_443, kn_444, kn_445, kn_446, kn_447, kn_448, kn_449, kn_450, kn_451, kn_452, kn_453, r_isShot W h hm, r_isMin' W h hy, r_bad1, if_false]
/-- shots that can be begun -/
def rdy (P : pln) (st : Nat → Int32) (K : Nat → Bool) (D m : Nat) : Nat → Nat
  | 0 => 0
  | k + 1 => if sWhy P st K D k m = 0 then rdy P st K D m k ||| 2 ^ k else rdy P st K D m k
theorem rdy_s (P : pln) (st : Nat → Int32) (K : Nat → Bool) (D m k : Nat) : rdy P st K D m (k + 1) = if sWhy P st K D k m = 0 then rdy P st K D m k ||| 2 ^ k else rdy P st K D m k := rfl
theorem c_ready13 (W : Wp P n D mv) (Z : Ws st n D) (h : CQ s p P n D mv st K) (hO : OLk s 381 p 38 D K) (hm : m < D) : ∀ (f i : Nat), n - i < f → i ≤ n → lX11_ready_13 N f 0 (nI m) (nI (rdy P st K D m i)) (nI i) (mk s) = some (.inl (nI (rdy P st K D m n)), mk s) := by
  have hn8 := W.1
  have hD := W.2.2.2.1
  have hpO := plA_O h.1
  intro f
  induction f with
  | zero => intro i hf; omega
  | succ f ih =>
    intro i hf hi
    show bX11_ready_13 N (lX11_ready_13 N f) 0 (nI m) (nI (rdy P st K D m i)) (nI i) (mk s) = _
    unfold bX11_ready_13 bX11_ready_48
    simp (decide := true) only [ob_s, cS_l, cS_r, gI_k, gR_k, pI_k, pR_k, cV_k, aI_k, tI_k, rZ_0, rZ_1, rZ_i, aR_24, aR_25, aZ_k, tZ_k, rf_3_6, rf_3_7, rf_3_8, rf_5_0, rf_5_1, rf_5_3, rf_5_4, rf_5_5, rf_5_7, rf_6_4, rf_6_11, rf_1_0, rf_1_1, rf_0_6, rf_9_7, rf_9_8, rf_8_0, rf_11_0, rf_11_5, rf_11_6, rf_11_7, rf_11_9, rf_11_10, rf_11_11, rf_11_12, rf_11_3, rf_11_4, Nat.reduceAdd, Nat.zero_add, kc_0, kc_1, kc_34, kc_35, kc_36, kc_37, kc_38, kc_39, kc_40, kc_41, kc_42, kc_43, kc_44, kc_45, kc_46, kc_207, kc_208, kc_209, kc_210, kc_211, kc_212, kc_213, kc_214, kc_215, kc_216, kc_377, kc_378, kc_379, kc_380, kc_381, kc_382, kc_383, kc_384, kc_385, kc_386, kc_387, kc_388, kc_389, kc_390, kc_391, kc_392, kc_393, kc_394, kc_395, kc_414, kc_415, kc_416, kc_417, kc_418, kn_1, kn_36, kn_39, kn_41, kn_42, kn_43, kn_44, kn_45, kn_46, kn_209, kn_211, kn_212, kn_213, kn_214, kn_215, kn_216, kn_378, kn_380, kn_382, kn_383, kn_385, kn_386, kn_388, kn_390, kn_392, kn_393, kn_395, kn_414, kn_415, kn_417, kn_418, h.2.1, hpO.1, h.2.2.1.2.2.1]
    by_cases c : n ≤ i
    · rw [if_pos (nI_le c (by omega)), show i = n by omega]
    · rw [if_neg (nI_ge (by omega) (by omega))]
      have hh := c_hind (N := N) (k := i) (m := m) oo_381 (stA_O (Or.inl rfl)) hpO hO h.2.2.2 Z.2.2.2 Z.2.1 (by omega) (h.2.2.1.2.2.2 i (by omega)) (W.2.2.2.2.2.2.2 i (by omega)).1 hm hD
      simp (decide := true) only [ob_s, cS_l, cS_r, gI_k, gR_k, pI_k, pR_k, cV_k, aI_k, tI_k, rZ_0, rZ_1, rZ_i, aR_24, aR_25, aZ_k, tZ_k, rf_3_6, rf_3_7, rf_3_8, rf_5_0, rf_5_1, rf_5_3, rf_5_4, rf_5_5, rf_5_7, rf_6_4, rf_6_11, rf_1_0, rf_1_1, rf_0_6, rf_9_7, rf_9_8, rf_8_0, rf_11_0, rf_11_5, rf_11_6, rf_11_7, rf_11_9, rf_11_10, rf_11_11, rf_11_12, rf_11_3, rf_11_4, Nat.reduceAdd, Nat.zero_add, kc_0, kc_1, kc_34, kc_35, kc_36, kc_37, kc_38, kc_39, kc_40, kc_41, kc_42, kc_43, kc_44, kc_45, kc_46, kc_207, kc_208, kc_209, kc_210, kc_211, kc_212, kc_213, kc_214, kc_215, kc_216, kc_377, kc_378, kc_379, kc_380, kc_381, kc_382, kc_383, kc_384, kc_385, kc_386, kc_387, kc_388, kc_389, kc_390, kc_391, kc_392, kc_393, kc_394, kc_395, kc_414, kc_415, kc_416, kc_417, kc_418, kn_1, kn_36, kn_39, kn_41, kn_42, kn_43, kn_44, kn_45, kn_46, kn_209, kn_211, kn_212, kn_213, kn_214, kn_215, kn_216, kn_378, kn_380, kn_382, kn_383, kn_385, kn_386, kn_388, kn_390, kn_392, kn_393, kn_395, kn_414, kn_415, kn_417, kn_418, hh]
      unfold bX11_ready_42
      have i1 := ih (i + 1) (by omega) (by omega)
      rw [rdy_s] at i1
      rw [nI_1]
      by_cases c2 : sWhy P st K D i m = 0
      · rw [if_pos c2] at i1
        rw [if_neg (fun q => q c2), or_bit _ _ (by omega)]
        exact i1
      · rw [if_neg c2] at i1
        rw [if_pos c2]
        exact i1
theorem c_ready (hN1 : 1000 ≤ N) (W : Wp P n D mv) (Z : Ws st n D) (h : CQ s p P n D mv st K) (hm : m < D) : ∃ s', fX11_ready N 0 (nI m) (mk s) = some (.inl (nI (rdy P st K D m n)), mk s') ∧ Fr cQ s s' := by
  have hn8 := W.1
  have hD := W.2.2.2.1
  obtain ⟨s1, a1, a2, a3⟩ := c_look (N := N) hN1 h hD
  have f1 : Fr cQ s s1 := Fr_m a3 (fun x j => oD_cQ)
  refine ⟨s1, ?_, f1⟩
  have := c_ready13 (N := N) W Z (CQ_fr h hn8 f1) a2 hm N 0 (by omega) (by omega)
  unfold fX11_ready bX11_ready_0
  simp (decide := true) only [ob_s, cS_l, cS_r, gI_k, gR_k, pI_k, pR_k, cV_k, aI_k, tI_k, rZ_0, rZ_1, rZ_i, aR_24, aR_25, aZ_k, tZ_k, rf_3_6, rf_3_7, rf_3_8, rf_5_0, rf_5_1, rf_5_3, rf_5_4, rf_5_5, rf_5_7, rf_6_4, rf_6_11, rf_1_0, rf_1_1, rf_0_6, rf_9_7, rf_9_8, rf_8_0, rf_11_0, rf_11_5, rf_11_6, rf_11_7, rf_11_9, rf_11_10, rf_11_11, rf_11_12, rf_11_3, rf_11_4, Nat.reduceAdd, Nat.zero_add, kc_0, kc_1, kc_34, kc_35, kc_36, kc_37, kc_38, kc_39, kc_40, kc_41, kc_42, kc_43, kc_44, kc_45, kc_46, kc_207, kc_208, kc_209, kc_210, kc_211, kc_212, kc_213, kc_214, kc_215, kc_216, kc_377, kc_378, kc_379, kc_380, kc_381, kc_382, kc_383, kc_384, kc_385, kc_386, kc_387, kc_388, kc_389, kc_390, kc_391, kc_392, kc_393, kc_394, kc_395, kc_414, kc_415, kc_416, kc_417, kc_418, kn_1, kn_36, kn_39, kn_41, kn_42, kn_43, kn_44, kn_45, kn_46, kn_209, kn_211, kn_212, kn_213, kn_214, kn_215, kn_216, kn_378, kn_380, kn_382, kn_383, kn_385, kn_386, kn_388, kn_390, kn_392, kn_393, kn_395, kn_414, kn_415, kn_417, kn_418, c_reqMin h hm hD, a1]
  exact this
theorem c_ready' {x : Int32} (h : CQ s p P n D mv st K) (hx : x < 0 ∨ (¬ x < 0 ∧ nI D ≤ x)) : fX11_ready N 0 x (mk s) = some (.inr 1, mk s) := by
  unfold fX11_ready bX11_ready_0
  simp (decide := true) only [ob_s, cS_l, cS_r, gI_k, gR_k, pI_k, pR_k, cV_k, aI_k, tI_k, rZ_0, rZ_1, rZ_i, aR_24, aR_25, aZ_k, tZ_k, rf_3_6, rf_3_7, rf_3_8, rf_5_0, rf_5_1, rf_5_3, rf_5_4, rf_5_5, rf_5_7, rf_6_4, rf_6_11, rf_1_0, rf_1_1, rf_0_6, rf_9_7, rf_9_8, rf_8_0, rf_11_0, rf_11_5, rf_11_6, rf_11_7, rf_11_9, rf_11_10, rf_11_11, rf_11_12, rf_11_3, rf_11_4, Nat.reduceAdd, Nat.zero_add, kc_0, kc_1, kc_34, kc_35, kc_36, kc_37, kc_38, kc_39, kc_40, kc_41, kc_42, kc_43, kc_44, kc_45, kc_46, kc_207, kc_208, kc_209, kc_210, kc_211, kc_212, kc_213, kc_214, kc_215, kc_216, kc_377, kc_378, kc_379, kc_380, kc_381, kc_382, kc_383, kc_384, kc_385, kc_386, kc_387, kc_388, kc_389, kc_390, kc_391, kc_392, kc_393, kc_394, kc_395, kc_414, kc_415, kc_416, kc_417, kc_418, kn_1, kn_36, kn_39, kn_41, kn_42, kn_43, kn_44, kn_45, kn_46, kn_209, kn_211, kn_212, kn_213, kn_214, kn_215, kn_216, kn_378, kn_380, kn_382, kn_383, kn_385, kn_386, kn_388, kn_390, kn_392, kn_393, kn_395, kn_414, kn_415, kn_417, kn_418, c_reqMin' h hx]
theorem r_ready27 (W : Wp P n D mv) (h : RV s P st K D) (hm : m < D) : ∀ (f i : Nat), n - i < f → i ≤ n → lX12_ready_27 N f 419 (nI m) (nI (rdy P st K D m i)) (nI i) (mk s) = some (.inl (nI (rdy P st K D m n)), mk s) := by
  have hn8 := W.1
  have hD := W.2.2.2.1
  intro f
  induction f with
  | zero => intro i hf; omega
  | succ f ih =>
    intro i hf hi
    show bX12_ready_27 N (lX12_ready_27 N f) 419 (nI m) (nI (rdy P st K D m i)) (nI i) (mk s) = _
    have e0 : s.1 422 0 = nI n := (h.1 0 0 (by omega) (by omega)).trans W.2.1
    unfold bX12_ready_27 bX12_ready_62
    simp (decide := true) only [ob_s, cS_l, cS_r, gI_k, gR_k, pI_k, pR_k, cV_k, aI_k, tI_k, rZ_0, rZ_1, rZ_i, rf_12_0, rf_12_1, rf_12_3, rf_12_4, rf_12_5, rf_12_6, rf_12_7, rf_12_8, rf_12_9, rf_12_10, rf_12_11, rf_12_12, rf_12_13, rf_12_14, rf_12_15, rf_12_26, rf_12_27, rf_12_31, rf_12_32, rf_12_33, rf_12_34, rf_12_41, rf_12_44, rf_12_47, rf_12_48, rf_12_49, rf_12_51, rf_12_55, rf_12_56, rf_12_57, rf_12_58, rf_12_59, rf_12_60, Nat.reduceAdd, kc_419, kc_420, kc_421, kc_422, kc_423, kc_424, kc_425, kc_426, kc_427, kc_428, kc_429, kc_430, kc_431, kc_432, kc_433, kc_434, kc_435, kc_436, kc_437, kc_438, kc_439, kc_440, kc_441, kc_442, kc_443, kc_444, kc_445, kc_446, kc_447, kc_448, kc_449, kc_450, kc_451, kc_452, kc_453, kn_420, kn_421, kn_422, kn_423, kn_424, kn_425, kn_426, kn_427, kn_428, kn_429, kn_430, kn_431, kn_432, kn_433, kn_434, kn_435, kn_436, kn_437, kn_438, kn_439, kn_440, kn_441, kn_442, kn_443, kn_444, kn_445, kn_446, kn_447, kn_448, kn_449, kn_450, kn_451, kn_452, kn_453, nc_0, e0]
    by_cases c : n ≤ i
    · rw [if_pos (nI_le c (by omega)), show i = n by omega]
    · rw [if_neg (nI_ge (by omega) (by omega))]
      simp (decide := true) only [ob_s, cS_l, cS_r, gI_k, gR_k, pI_k, pR_k, cV_k, aI_k, tI_k, rZ_0, rZ_1, rZ_i, rf_12_0, rf_12_1, rf_12_3, rf_12_4, rf_12_5, rf_12_6, rf_12_7, rf_12_8, rf_12_9, rf_12_10, rf_12_11, rf_12_12, rf_12_13, rf_12_14, rf_12_15, rf_12_26, rf_12_27, rf_12_31, rf_12_32, rf_12_33, rf_12_34, rf_12_41, rf_12_44, rf_12_47, rf_12_48, rf_12_49, rf_12_51, rf_12_55, rf_12_56, rf_12_57, rf_12_58, rf_12_59, rf_12_60, Nat.reduceAdd, kc_419, kc_420, kc_421, kc_422, kc_423, kc_424, kc_425, kc_426, kc_427, kc_428, kc_429, kc_430, kc_431, kc_432, kc_433, kc_434, kc_435, kc_436, kc_437, kc_438, kc_439, kc_440, kc_441, kc_442, kc_443, kc_444, kc_445, kc_446, kc_447, kc_448, kc_449, kc_450, kc_451, kc_452, kc_453, kn_420, kn_421, kn_422, kn_423, kn_424, kn_425, kn_426, kn_427, kn_428, kn_429, kn_430, kn_431, kn_432, kn_433, kn_434, kn_435, kn_436, kn_437, kn_438, kn_439, kn_440, kn_441, kn_442, kn_443, kn_444, kn_445, kn_446, kn_447, kn_448, kn_449, kn_450, kn_451, kn_452, kn_453, r_why h (show i < 8 by omega) (show m < 480 by omega)]
      unfold bX12_ready_54
      have i1 := ih (i + 1) (by omega) (by omega)
      rw [rdy_s] at i1
      rw [nI_1]
      by_cases c2 : sWhy P st K D i m = 0
      · rw [if_pos c2] at i1
        rw [if_neg (fun q => q c2), or_bit _ _ (by omega)]
        exact i1
      · rw [if_neg c2] at i1
        rw [if_pos c2, Int32.or_zero]
        exact i1
theorem r_ready (hN1 : 1000 ≤ N) (W : Wp P n D mv) (h : RU s P st K) (hm : m < D) : ∃ s', fX12_ready N 419 (nI m) (mk s) = some (.inl (nI (rdy P st K D m n)), mk s') ∧ s'.1 419 2 = 0 ∧ Fr rQ s s' := by
  have hn8 := W.1
  obtain ⟨b1, b2, b3⟩ := r_begin h W
  refine ⟨_, ?_, b2, b3⟩
  have := r_ready27 (N := N) W b1 hm N 0 (by omega) (by omega)
  unfold fX12_ready bX12_ready_0
  simp (decide := true) only [ob_s, cS_l, cS_r, gI_k, gR_k, pI_k, pR_k, cV_k, aI_k, tI_k, rZ_0, rZ_1, rZ_i, rf_12_0, rf_12_1, rf_12_3, rf_12_4, rf_12_5, rf_12_6, rf_12_7, rf_12_8, rf_12_9, rf_12_10, rf_12_11, rf_12_12, rf_12_13, rf_12_14, rf_12_15, rf_12_26, rf_12_27, rf_12_31, rf_12_32, rf_12_33, rf_12_34, rf_12_41, rf_12_44, rf_12_47, rf_12_48, rf_12_49, rf_12_51, rf_12_55, rf_12_56, rf_12_57, rf_12_58, rf_12_59, rf_12_60, Nat.reduceAdd, kc_419, kc_420, kc_421, kc_422, kc_423, kc_424, kc_425, kc_426, kc_427, kc_428, kc_429, kc_430, kc_431, kc_432, kc_433, kc_434, kc_435, kc_436, kc_437, kc_438, kc_439, kc_440, kc_441, kc_442, kc_443, kc_444, kc_445, kc_446, kc_447, kc_448, kc_449, kc_450, kc_451, kc_452, kc_453, kn_420, kn_421, kn_422, kn_423, kn_424, kn_425, kn_426, kn_427, kn_428, kn_429, kn_430, kn_431, kn_432, kn_433, kn_434, kn_435, kn_436, kn_437, kn_438, kn_439, kn_440, kn_441, kn_442, kn_443, kn_444, kn_445, kn_446, kn_447, kn_448, kn_449, kn_450, kn_451, kn_452, kn_453, r_isMin W h hm, if_true, m_set]
  simp (decide := true) only [sI_c, Nat.reduceEqDiff, false_and, if_false]
  exact this
theorem r_ready' {x : Int32} (W : Wp P n D mv) (h : RU s P st K) (hx : ¬ (0 ≤ x ∧ x ≤ nI D - 1)) : fX12_ready N 419 x (mk s) = some (.inl 0, mk (sI (sI s 419 2 0) 419 2 1)) := by
  unfold fX12_ready bX12_ready_0
  simp (decide := true) only [ob_s, cS_l, cS_r, gI_k, gR_k, pI_k, pR_k, cV_k, aI_k, tI_k, rZ_0, rZ_1, rZ_i, rf_12_0, rf_12_1, rf_12_3, rf_12_4, rf_12_5, rf_12_6, rf_12_7, rf_12_8, rf_12_9, rf_12_10, rf_12_11, rf_12_12, rf_12_13, rf_12_14, rf_12_15, rf_12_26, rf_12_27, rf_12_31, rf_12_32, rf_12_33, rf_12_34, rf_12_41, rf_12_44, rf_12_47, rf_12_48, rf_12_49, rf_12_51, rf_12_55, rf_12_56, rf_12_57, rf_12_58, rf_12_59, rf_12_60, Nat.reduceAdd, kc_419, kc_420, kc_421, kc_422, kc_423, kc_424, kc_425, kc_426, kc_427, kc_428, kc_429, kc_430, kc_431, kc_432, kc_433, kc_434, kc_435, kc_436, kc_437, kc_438, kc_439, kc_440, kc_441, kc_442, kc_443, kc_444, kc_445, kc_446, kc_447, kc_448, kc_449, kc_450, kc_451, kc_452, kc_453, kn_420, kn_421, kn_422, kn_423, kn_424, kn_425, kn_426, kn_427, kn_428, kn_429, kn_430, kn_431, kn_432, kn_433, kn_434, kn_435, kn_436, kn_437, kn_438, kn_439, kn_440, kn_441, kn_442, kn_443, kn_444, kn_445, kn_446, kn_447, kn_448, kn_449, kn_450, kn_451, kn_452, kn_453, r_isMin' W h hx, r_bad1, if_false]
def aEdge (K : Nat → Bool) (D m : Nat) : Int32 := if m + stays K D m < D then nI (m + stays K D m) else -1
theorem c_edge (hN1 : 1000 ≤ N) (h : CQ s p P n D mv st K) (hD : D ≤ 480) (hn : n ≤ 8) (hm : m < D) : ∃ s', fX11_edge N 0 (nI m) (mk s) = some (.inl (aEdge K D m), mk s') ∧ Fr cQ s s' := by
  have hpO := plA_O h.1
  obtain ⟨s1, a1, a2, a3⟩ := c_look (N := N) hN1 h hD
  have f1 : Fr cQ s s1 := Fr_m a3 (fun x j => oD_cQ)
  have h' := CQ_fr h hn f1
  refine ⟨s1, ?_, f1⟩
  have i1 : inB (nI m) 481 = true := inA_nI (by omega) (by omega)
  have hsl := stays_le (K := K) (show m ≤ D by omega)
  unfold fX11_edge bX11_edge_0 aEdge
  simp (decide := true) only [ob_s, cS_l, cS_r, gI_k, gR_k, pI_k, pR_k, cV_k, aI_k, tI_k, rZ_0, rZ_1, rZ_i, aR_24, aR_25, aZ_k, tZ_k, rf_3_6, rf_3_7, rf_3_8, rf_5_0, rf_5_1, rf_5_3, rf_5_4, rf_5_5, rf_5_7, rf_6_4, rf_6_11, rf_1_0, rf_1_1, rf_0_6, rf_9_7, rf_9_8, rf_8_0, rf_11_0, rf_11_5, rf_11_6, rf_11_7, rf_11_9, rf_11_10, rf_11_11, rf_11_12, rf_11_3, rf_11_4, Nat.reduceAdd, Nat.zero_add, kc_0, kc_1, kc_34, kc_35, kc_36, kc_37, kc_38, kc_39, kc_40, kc_41, kc_42, kc_43, kc_44, kc_45, kc_46, kc_207, kc_208, kc_209, kc_210, kc_211, kc_212, kc_213, kc_214, kc_215, kc_216, kc_377, kc_378, kc_379, kc_380, kc_381, kc_382, kc_383, kc_384, kc_385, kc_386, kc_387, kc_388, kc_389, kc_390, kc_391, kc_392, kc_393, kc_394, kc_395, kc_414, kc_415, kc_416, kc_417, kc_418, kn_1, kn_36, kn_39, kn_41, kn_42, kn_43, kn_44, kn_45, kn_46, kn_209, kn_211, kn_212, kn_213, kn_214, kn_215, kn_216, kn_378, kn_380, kn_382, kn_383, kn_385, kn_386, kn_388, kn_390, kn_392, kn_393, kn_395, kn_414, kn_415, kn_417, kn_418, c_reqMin h hm hD, a1, i1, nI_clamp (show m < 2 ^ 31 by omega), (a2.2.2.2 m (by omega) hm).1, h'.2.1, hpO.1, h'.2.2.1.1, nI_add]
  by_cases c : m + stays K D m < D
  · rw [if_pos c, if_neg (nI_ge c (by omega))]
  · rw [if_neg c, if_pos (nI_le (by omega) (by omega))]
theorem c_edge' {x : Int32} (h : CQ s p P n D mv st K) (hx : x < 0 ∨ (¬ x < 0 ∧ nI D ≤ x)) : fX11_edge N 0 x (mk s) = some (.inr 1, mk s) := by
  unfold fX11_edge bX11_edge_0
  simp (decide := true) only [ob_s, cS_l, cS_r, gI_k, gR_k, pI_k, pR_k, cV_k, aI_k, tI_k, rZ_0, rZ_1, rZ_i, aR_24, aR_25, aZ_k, tZ_k, rf_3_6, rf_3_7, rf_3_8, rf_5_0, rf_5_1, rf_5_3, rf_5_4, rf_5_5, rf_5_7, rf_6_4, rf_6_11, rf_1_0, rf_1_1, rf_0_6, rf_9_7, rf_9_8, rf_8_0, rf_11_0, rf_11_5, rf_11_6, rf_11_7, rf_11_9, rf_11_10, rf_11_11, rf_11_12, rf_11_3, rf_11_4, Nat.reduceAdd, Nat.zero_add, kc_0, kc_1, kc_34, kc_35, kc_36, kc_37, kc_38, kc_39, kc_40, kc_41, kc_42, kc_43, kc_44, kc_45, kc_46, kc_207, kc_208, kc_209, kc_210, kc_211, kc_212, kc_213, kc_214, kc_215, kc_216, kc_377, kc_378, kc_379, kc_380, kc_381, kc_382, kc_383, kc_384, kc_385, kc_386, kc_387, kc_388, kc_389, kc_390, kc_391, kc_392, kc_393, kc_394, kc_395, kc_414, kc_415, kc_416, kc_417, kc_418, kn_1, kn_36, kn_39, kn_41, kn_42, kn_43, kn_44, kn_45, kn_46, kn_209, kn_211, kn_212, kn_213, kn_214, kn_215, kn_216, kn_378, kn_380, kn_382, kn_383, kn_385, kn_386, kn_388, kn_390, kn_392, kn_393, kn_395, kn_414, kn_415, kn_417, kn_418, c_reqMin' h hx]
theorem r_edge (hN1 : 1000 ≤ N) (W : Wp P n D mv) (h : RU s P st K) (hm : m < D) : ∃ s', fX12_edge N 419 (nI m) (mk s) = some (.inl (aEdge K D m), mk s') ∧ s'.1 419 2 = 0 ∧ Fr rQ s s' := by
  have hD := W.2.2.2.1
  obtain ⟨b1, b2, b3⟩ := r_begin h W
  have e1 : s.1 422 1 = nI D := (h.1 0 1 (by omega) (by omega)).trans W.2.2.2.2.1
  rw [e1] at b1 b2 b3
  refine ⟨_, ?_, b2, b3⟩
  have hsl := stays_le (K := K) (show m ≤ D by omega)
  unfold fX12_edge bX12_edge_0 aEdge
  simp (decide := true) only [ob_s, cS_l, cS_r, gI_k, gR_k, pI_k, pR_k, cV_k, aI_k, tI_k, rZ_0, rZ_1, rZ_i, rf_12_0, rf_12_1, rf_12_3, rf_12_4, rf_12_5, rf_12_6, rf_12_7, rf_12_8, rf_12_9, rf_12_10, rf_12_11, rf_12_12, rf_12_13, rf_12_14, rf_12_15, rf_12_26, rf_12_27, rf_12_31, rf_12_32, rf_12_33, rf_12_34, rf_12_41, rf_12_44, rf_12_47, rf_12_48, rf_12_49, rf_12_51, rf_12_55, rf_12_56, rf_12_57, rf_12_58, rf_12_59, rf_12_60, Nat.reduceAdd, kc_419, kc_420, kc_421, kc_422, kc_423, kc_424, kc_425, kc_426, kc_427, kc_428, kc_429, kc_430, kc_431, kc_432, kc_433, kc_434, kc_435, kc_436, kc_437, kc_438, kc_439, kc_440, kc_441, kc_442, kc_443, kc_444, kc_445, kc_446, kc_447, kc_448, kc_449, kc_450, kc_451, kc_452, kc_453, kn_420, kn_421, kn_422, kn_423, kn_424, kn_425, kn_426, kn_427, kn_428, kn_429, kn_430, kn_431, kn_432, kn_433, kn_434, kn_435, kn_436, kn_437, kn_438, kn_439, kn_440, kn_441, kn_442, kn_443, kn_444, kn_445, kn_446, kn_447, kn_448, kn_449, kn_450, kn_451, kn_452, kn_453, r_isMin W h hm, if_true, m_set]
  simp (decide := true) only [sI_c, Nat.reduceEqDiff, false_and, if_false, e1]
  simp (decide := true) only [ob_s, cS_l, cS_r, gI_k, gR_k, pI_k, pR_k, cV_k, aI_k, tI_k, rZ_0, rZ_1, rZ_i, rf_12_0, rf_12_1, rf_12_3, rf_12_4, rf_12_5, rf_12_6, rf_12_7, rf_12_8, rf_12_9, rf_12_10, rf_12_11, rf_12_12, rf_12_13, rf_12_14, rf_12_15, rf_12_26, rf_12_27, rf_12_31, rf_12_32, rf_12_33, rf_12_34, rf_12_41, rf_12_44, rf_12_47, rf_12_48, rf_12_49, rf_12_51, rf_12_55, rf_12_56, rf_12_57, rf_12_58, rf_12_59, rf_12_60, Nat.reduceAdd, kc_419, kc_420, kc_421, kc_422, kc_423, kc_424, kc_425, kc_426, kc_427, kc_428, kc_429, kc_430, kc_431, kc_432, kc_433, kc_434, kc_435, kc_436, kc_437, kc_438, kc_439, kc_440, kc_441, kc_442, kc_443, kc_444, kc_445, kc_446, kc_447, kc_448, kc_449, kc_450, kc_451, kc_452, kc_453, kn_420, kn_421, kn_422, kn_423, kn_424, kn_425, kn_426, kn_427, kn_428, kn_429, kn_430, kn_431, kn_432, kn_433, kn_434, kn_435, kn_436, kn_437, kn_438, kn_439, kn_440, kn_441, kn_442, kn_443, kn_444, kn_445, kn_446, kn_447, kn_448, kn_449, kn_450, kn_451, kn_452, kn_453, r_stays hN1 b1 hD hm, nc_1, sI_c, Nat.reduceEqDiff, false_and, if_false, e1, nI_add]
  by_cases c : m + stays K D m < D
  · rw [if_pos c, if_neg (nI_ge c (by omega))]
  · rw [if_neg c, if_pos (nI_le (by omega) (by omega))]
theorem r_edge' {x : Int32} (W : Wp P n D mv) (h : RU s P st K) (hx : ¬ (0 ≤ x ∧ x ≤ nI D - 1)) : fX12_edge N 419 x (mk s) = some (.inl 0, mk (sI (sI s 419 2 0) 419 2 1)) := by
  unfold fX12_edge bX12_edge_0
  simp (decide := true) only [ob_s, cS_l, cS_r, gI_k, gR_k, pI_k, pR_k, cV_k, aI_k, tI_k, rZ_0, rZ_1, rZ_i, rf_12_0, rf_12_1, rf_12_3, rf_12_4, rf_12_5, rf_12_6, rf_12_7, rf_12_8, rf_12_9, rf_12_10, rf_12_11, rf_12_12, rf_12_13, rf_12_14, rf_12_15, rf_12_26, rf_12_27, rf_12_31, rf_12_32, rf_12_33, rf_12_34, rf_12_41, rf_12_44, rf_12_47, rf_12_48, rf_12_49, rf_12_51, rf_12_55, rf_12_56, rf_12_57, rf_12_58, rf_12_59, rf_12_60, Nat.reduceAdd, kc_419, kc_420, kc_421, kc_422, kc_423, kc_424, kc_425, kc_426, kc_427, kc_428, kc_429, kc_430, kc_431, kc_432, kc_433, kc_434, kc_435, kc_436, kc_437, kc_438, kc_439, kc_440, kc_441, kc_442, kc_443, kc_444, kc_445, kc_446, kc_447, kc_448, kc_449, kc_450, kc_451, kc_452, kc_453, kn_420, kn_421, kn_422, kn_423, kn_424, kn_425, kn_426, kn_427, kn_428, kn_429, kn_430, kn_431, kn_432, kn_433, kn_434, kn_435, kn_436, kn_437, kn_438, kn_439, kn_440, kn_441, kn_442, kn_443, kn_444, kn_445, kn_446, kn_447, kn_448, kn_449, kn_450, kn_451, kn_452, kn_453, r_isMin' W h hx, r_bad1, if_false]
/-- what is told of a shot -/
def aShot (P : pln) (st : Nat → Int32) (k w : Nat) : Int32 := if w = 6 then sk_i (sBit (st 2) (nI k)) else if w = 7 then st (7 + k) else P (w + 1) k
theorem c_shot (h : CQ s p P n D mv st K) (hn : n ≤ 8) (hk : k < n) (hw : w < 8) : fX11_shot N 0 (nI k) (nI w) (mk s) = some (.inl (aShot P st k w), mk s) := by
  have hpO := plA_O h.1
  have hq := hpO.2.2.2.1 k (by omega)
  have i1 : inB (nI k) 8 = true := inA_nI (by omega) (by omega)
  obtain ⟨g1, g2, g3, g4, g5, g6⟩ := h.2.2.1.2.2.2 k hk
  have g7 := h.2.2.2.2.2.2.2.2.2.2.1 k (by omega)
  unfold fX11_shot bX11_shot_0
  simp (decide := true) only [ob_s, cS_l, cS_r, gI_k, gR_k, pI_k, pR_k, cV_k, aI_k, tI_k, rZ_0, rZ_1, rZ_i, aR_24, aR_25, aZ_k, tZ_k, rf_3_6, rf_3_7, rf_3_8, rf_5_0, rf_5_1, rf_5_3, rf_5_4, rf_5_5, rf_5_7, rf_6_4, rf_6_11, rf_1_0, rf_1_1, rf_0_6, rf_9_7, rf_9_8, rf_8_0, rf_11_0, rf_11_5, rf_11_6, rf_11_7, rf_11_9, rf_11_10, rf_11_11, rf_11_12, rf_11_3, rf_11_4, Nat.reduceAdd, Nat.zero_add, kc_0, kc_1, kc_34, kc_35, kc_36, kc_37, kc_38, kc_39, kc_40, kc_41, kc_42, kc_43, kc_44, kc_45, kc_46, kc_207, kc_208, kc_209, kc_210, kc_211, kc_212, kc_213, kc_214, kc_215, kc_216, kc_377, kc_378, kc_379, kc_380, kc_381, kc_382, kc_383, kc_384, kc_385, kc_386, kc_387, kc_388, kc_389, kc_390, kc_391, kc_392, kc_393, kc_394, kc_395, kc_414, kc_415, kc_416, kc_417, kc_418, kn_1, kn_36, kn_39, kn_41, kn_42, kn_43, kn_44, kn_45, kn_46, kn_209, kn_211, kn_212, kn_213, kn_214, kn_215, kn_216, kn_378, kn_380, kn_382, kn_383, kn_385, kn_386, kn_388, kn_390, kn_392, kn_393, kn_395, kn_414, kn_415, kn_417, kn_418, c_reqShot h hk hn, h.2.1, hpO.1, hpO.2.1, hpO.2.2.1, i1, nI_clamp (show k < 2 ^ 31 by omega), hq, g1, g2, g3, g4, g5, g6, c_isHad (stA_O (Or.inl rfl)) h.2.2.2, g7, sk_0]
  unfold aShot
  rcases (show w = 0 ∨ w = 1 ∨ w = 2 ∨ w = 3 ∨ w = 4 ∨ w = 5 ∨ w = 6 ∨ w = 7 by omega) with rfl | rfl | rfl | rfl | rfl | rfl | rfl | rfl <;> simp (decide := true)
  cases sBit (st 2) (nI k) <;> rfl
theorem c_shot' {x y : Int32} (h : CQ s p P n D mv st K) (hn : n ≤ 8) (hx : (x < 0 ∨ (¬ x < 0 ∧ nI n ≤ x)) ∨ (∃ k, k < n ∧ x = nI k) ∧ ¬ ∃ w, w < 8 ∧ y = nI w) : fX11_shot N 0 x y (mk s) = some (.inr 1, mk s) := by
  have hpO := plA_O h.1
  unfold fX11_shot bX11_shot_0
  rcases hx with hx | ⟨⟨k, hk, rfl⟩, hy⟩
  · simp (decide := true) only [ob_s, cS_l, cS_r, gI_k, gR_k, pI_k, pR_k, cV_k, aI_k, tI_k, rZ_0, rZ_1, rZ_i, aR_24, aR_25, aZ_k, tZ_k, rf_3_6, rf_3_7, rf_3_8, rf_5_0, rf_5_1, rf_5_3, rf_5_4, rf_5_5, rf_5_7, rf_6_4, rf_6_11, rf_1_0, rf_1_1, rf_0_6, rf_9_7, rf_9_8, rf_8_0, rf_11_0, rf_11_5, rf_11_6, rf_11_7, rf_11_9, rf_11_10, rf_11_11, rf_11_12, rf_11_3, rf_11_4, Nat.reduceAdd, Nat.zero_add, kc_0, kc_1, kc_34, kc_35, kc_36, kc_37, kc_38, kc_39, kc_40, kc_41, kc_42, kc_43, kc_44, kc_45, kc_46, kc_207, kc_208, kc_209, kc_210, kc_211, kc_212, kc_213, kc_214, kc_215, kc_216, kc_377, kc_378, kc_379, kc_380, kc_381, kc_382, kc_383, kc_384, kc_385, kc_386, kc_387, kc_388, kc_389, kc_390, kc_391, kc_392, kc_393, kc_394, kc_395, kc_414, kc_415, kc_416, kc_417, kc_418, kn_1, kn_36, kn_39, kn_41, kn_42, kn_43, kn_44, kn_45, kn_46, kn_209, kn_211, kn_212, kn_213, kn_214, kn_215, kn_216, kn_378, kn_380, kn_382, kn_383, kn_385, kn_386, kn_388, kn_390, kn_392, kn_393, kn_395, kn_414, kn_415, kn_417, kn_418, c_reqShot' h hx]
  · have i1 : inB (nI k) 8 = true := inA_nI (by omega) (by omega)
    have e : ∀ w, w < 8 → ¬ y = nI w := fun w hw q => hy ⟨w, hw, q⟩
    simp (decide := true) only [ob_s, cS_l, cS_r, gI_k, gR_k, pI_k, pR_k, cV_k, aI_k, tI_k, rZ_0, rZ_1, rZ_i, aR_24, aR_25, aZ_k, tZ_k, rf_3_6, rf_3_7, rf_3_8, rf_5_0, rf_5_1, rf_5_3, rf_5_4, rf_5_5, rf_5_7, rf_6_4, rf_6_11, rf_1_0, rf_1_1, rf_0_6, rf_9_7, rf_9_8, rf_8_0, rf_11_0, rf_11_5, rf_11_6, rf_11_7, rf_11_9, rf_11_10, rf_11_11, rf_11_12, rf_11_3, rf_11_4, Nat.reduceAdd, Nat.zero_add, kc_0, kc_1, kc_34, kc_35, kc_36, kc_37, kc_38, kc_39, kc_40, kc_41, kc_42, kc_43, kc_44, kc_45, kc_46, kc_207, kc_208, kc_209, kc_210, kc_211, kc_212, kc_213, kc_214, kc_215, kc_216, kc_377, kc_378, kc_379, kc_380, kc_381, kc_382, kc_383, kc_384, kc_385, kc_386, kc_387, kc_388, kc_389, kc_390, kc_391, kc_392, kc_393, kc_394, kc_395, kc_414, kc_415, kc_416, kc_417, kc_418, kn_1, kn_36, kn_39, kn_41, kn_42, kn_43, kn_44, kn_45, kn_46, kn_209, kn_211, kn_212, kn_213, kn_214, kn_215, kn_216, kn_378, kn_380, kn_382, kn_383, kn_385, kn_386, kn_388, kn_390, kn_392, kn_393, kn_395, kn_414, kn_415, kn_417, kn_418, c_reqShot h hk hn, h.2.1, hpO.1, hpO.2.1, hpO.2.2.1, i1]
    rw [if_neg (show ¬ y = 0 from e 0 (by omega)), if_neg (show ¬ y = 1 from e 1 (by omega)), if_neg (show ¬ y = 2 from e 2 (by omega)), if_neg (show ¬ y = 3 from e 3 (by omega)), if_neg (show ¬ y = 4 from e 4 (by omega)), if_neg (show ¬ y = 5 from e 5 (by omega)), if_neg (show ¬ y = 6 from e 6 (by omega)), if_neg (show ¬ y = 7 from e 7 (by omega))]
theorem r_shot (W : Wp P n D mv) (h : RU s P st K) (hk : k < n) (hw : w < 8) : ∃ s', fX12_shot N 419 (nI k) (nI w) (mk s) = some (.inl (aShot P st k w), mk s') ∧ s'.1 419 2 = 0 ∧ Fr rQ s s' := by
  have hn8 := W.1
  refine ⟨sI s 419 2 0, ?_, by simp [sI_c], Fr_sI (by unfold rQ; omega)⟩
  have ik : inB (nI k) 16 = true := inA_nI (by omega) (by omega)
  have i7 : inB (7 + nI k) 15 = true := by rw [show (7 : Int32) = nI 7 from rfl, nI_add]; exact inA_nI (by omega) (by omega)
  have c7 : (7 + nI k).toNatClampNeg = 7 + k := by rw [show (7 : Int32) = nI 7 from rfl, nI_add, nI_clamp (by omega)]
  unfold fX12_shot bX12_shot_0
  simp (decide := true) only [ob_s, cS_l, cS_r, gI_k, gR_k, pI_k, pR_k, cV_k, aI_k, tI_k, rZ_0, rZ_1, rZ_i, rf_12_0, rf_12_1, rf_12_3, rf_12_4, rf_12_5, rf_12_6, rf_12_7, rf_12_8, rf_12_9, rf_12_10, rf_12_11, rf_12_12, rf_12_13, rf_12_14, rf_12_15, rf_12_26, rf_12_27, rf_12_31, rf_12_32, rf_12_33, rf_12_34, rf_12_41, rf_12_44, rf_12_47, rf_12_48, rf_12_49, rf_12_51, rf_12_55, rf_12_56, rf_12_57, rf_12_58, rf_12_59, rf_12_60, Nat.reduceAdd, kc_419, kc_420, kc_421, kc_422, kc_423, kc_424, kc_425, kc_426, kc_427, kc_428, kc_429, kc_430, kc_431, kc_432, kc_433, kc_434, kc_435, kc_436, kc_437, kc_438, kc_439, kc_440, kc_441, kc_442, kc_443, kc_444, kc_445, kc_446, kc_447, kc_448, kc_449, kc_450, kc_451, kc_452, kc_453, kn_420, kn_421, kn_422, kn_423, kn_424, kn_425, kn_426, kn_427, kn_428, kn_429, kn_430, kn_431, kn_432, kn_433, kn_434, kn_435, kn_436, kn_437, kn_438, kn_439, kn_440, kn_441, kn_442, kn_443, kn_444, kn_445, kn_446, kn_447, kn_448, kn_449, kn_450, kn_451, kn_452, kn_453, r_isShot W h hk, if_true, ik, i7, c7, nI_clamp (show k < 2 ^ 31 by omega), nc_2, m_isOf, sb_eq0, sI_c, Nat.reduceEqDiff, false_and, if_false, h.1 1 k (by omega) (show k < 8 by omega), h.1 2 k (by omega) (show k < 8 by omega), h.1 3 k (by omega) (show k < 8 by omega), h.1 4 k (by omega) (show k < 8 by omega), h.1 5 k (by omega) (show k < 8 by omega), h.1 6 k (by omega) (show k < 8 by omega), h.2.1 2 (by omega), h.2.1 (7 + k) (by omega)]
  have e1 : s.1 423 k = P 1 k := h.1 1 k (by omega) (by omega)
  have e2 : s.1 424 k = P 2 k := h.1 2 k (by omega) (by omega)
  have e3 : s.1 425 k = P 3 k := h.1 3 k (by omega) (by omega)
  have e4 : s.1 426 k = P 4 k := h.1 4 k (by omega) (by omega)
  have e5 : s.1 427 k = P 5 k := h.1 5 k (by omega) (by omega)
  have e6 : s.1 428 k = P 6 k := h.1 6 k (by omega) (by omega)
  unfold aShot sBit
  rcases (show w = 0 ∨ w = 1 ∨ w = 2 ∨ w = 3 ∨ w = 4 ∨ w = 5 ∨ w = 6 ∨ w = 7 by omega) with rfl | rfl | rfl | rfl | rfl | rfl | rfl | rfl <;> simp (decide := true)
  by_cases c : (st 2 >>> (nI k &&& 31)) &&& 1 = 1 <;> simp [c, sk_i]
theorem r_shot' {x y : Int32} (W : Wp P n D mv) (h : RU s P st K) (hx : ¬ (0 ≤ x ∧ x ≤ nI n - 1) ∨ (∃ k, k < n ∧ x = nI k) ∧ ¬ ∃ w, w < 8 ∧ y = nI w) : fX12_shot N 419 x y (mk s) = some (.inl 0, mk (sI (sI s 419 2 0) 419 2 1)) := by
  unfold fX12_shot bX12_shot_0
  rcases hx with hx | ⟨⟨k, hk, rfl⟩, hy⟩
  · simp (decide := true) only [ob_s, cS_l, cS_r, gI_k, gR_k, pI_k, pR_k, cV_k, aI_k, tI_k, rZ_0, rZ_1, rZ_i, rf_12_0, rf_12_1, rf_12_3, rf_12_4, rf_12_5, rf_12_6, rf_12_7, rf_12_8, rf_12_9, rf_12_10, rf_12_11, rf_12_12, rf_12_13, rf_12_14, rf_12_15, rf_12_26, rf_12_27, rf_12_31, rf_12_32, rf_12_33, rf_12_34, rf_12_41, rf_12_44, rf_12_47, rf_12_48, rf_12_49, rf_12_51, rf_12_55, rf_12_56, rf_12_57, rf_12_58, rf_12_59, rf_12_60, Nat.reduceAdd, kc_419, kc_420, kc_421, kc_422, kc_423, kc_424, kc_425, kc_426, kc_427, kc_428, kc_429, kc_430, kc_431, kc_432, kc_433, kc_434, kc_435, kc_436, kc_437, kc_438, kc_439, kc_440, kc_441, kc_442, kc_443, kc_444, kc_445, kc_446, kc_447, kc_448, kc_449, kc_450, kc_451, kc_452, kc_453, kn_420, kn_421, kn_422, kn_423, kn_424, kn_425, kn_426, kn_427, kn_428, kn_429, kn_430, kn_431, kn_432, kn_433, kn_434, kn_435, kn_436, kn_437, kn_438, kn_439, kn_440, kn_441, kn_442, kn_443, kn_444, kn_445, kn_446, kn_447, kn_448, kn_449, kn_450, kn_451, kn_452, kn_453, r_isShot' W h hx, r_bad1, if_false]
  · have e : ∀ w, w < 8 → ¬ y = nI w := fun w hw q => hy ⟨w, hw, q⟩
    simp (decide := true) only [ob_s, cS_l, cS_r, gI_k, gR_k, pI_k, pR_k, cV_k, aI_k, tI_k, rZ_0, rZ_1, rZ_i, rf_12_0, rf_12_1, rf_12_3, rf_12_4, rf_12_5, rf_12_6, rf_12_7, rf_12_8, rf_12_9, rf_12_10, rf_12_11, rf_12_12, rf_12_13, rf_12_14, rf_12_15, rf_12_26, rf_12_27, rf_12_31, rf_12_32, rf_12_33, rf_12_34, rf_12_41, rf_12_44, rf_12_47, rf_12_48, rf_12_49, rf_12_51, rf_12_55, rf_12_56, rf_12_57, rf_12_58, rf_12_59, rf_12_60, Nat.reduceAdd, kc_419, kc_420, kc_421, kc_422, kc_423, kc_424, kc_425, kc_426, kc_427, kc_428, kc_429, kc_430, kc_431, kc_432, kc_433, kc_434, kc_435, kc_436, kc_437, kc_438, kc_439, kc_440, kc_441, kc_442, kc_443, kc_444, kc_445, kc_446, kc_447, kc_448, kc_449, kc_450, kc_451, kc_452, kc_453, kn_420, kn_421, kn_422, kn_423, kn_424, kn_425, kn_426, kn_427, kn_428, kn_429, kn_430, kn_431, kn_432, kn_433, kn_434, kn_435, kn_436, kn_437, kn_438, kn_439, kn_440, kn_441, kn_442, kn_443, kn_444, kn_445, kn_446, kn_447, kn_448, kn_449, kn_450, kn_451, kn_452, kn_453, r_isShot W h hk, r_bad1, if_true]
    rw [if_neg (show ¬ y = 0 from e 0 (by omega)), if_neg (show ¬ y = 1 from e 1 (by omega)), if_neg (show ¬ y = 2 from e 2 (by omega)), if_neg (show ¬ y = 3 from e 3 (by omega)), if_neg (show ¬ y = 4 from e 4 (by omega)), if_neg (show ¬ y = 5 from e 5 (by omega)), if_neg (show ¬ y = 6 from e 6 (by omega)), if_neg (show ¬ y = 7 from e 7 (by omega))]
/-- chances: how many, the first -/
def chn (c : Nat → Bool) : Nat → Nat → Nat × Int32 → Nat × Int32
  | 0, _, q => q
  | f + 1, m, q => chn c f (m + 1) (if c m = true then (q.1 + 1, if q.2 = -1 then nI m else q.2) else q)
theorem chn_s (c : Nat → Bool) (f m : Nat) (q : Nat × Int32) : chn c (f + 1) m q = chn c f (m + 1) (if c m = true then (q.1 + 1, if q.2 = -1 then nI m else q.2) else q) := rfl
def aCh (P : pln) (st : Nat → Int32) (K : Nat → Bool) (D k w : Nat) : Int32 := if w = 0 then nI (chn (fun m => sCan P st K D k m (ln P k)) (D - nowN st) (nowN st) (0, -1)).1 else (chn (fun m => sCan P st K D k m (ln P k)) (D - nowN st) (nowN st) (0, -1)).2
theorem c_ch31 (W : Wp P n D mv) (Z : Ws st n D) (h : CQ s p P n D mv st K) (hO : OLk s 381 p 38 D K) (hk : k < n) (hw : w ≤ 1) : ∀ (f i c : Nat) (x : Int32), D - i < f → i ≤ D → c ≤ i → lX11_chances_31 N f 0 (nI k) (nI w) (nI c) x (nI i) (mk s) = some (.inl (if w = 0 then nI (chn (fun m => sCan P st K D k m (ln P k)) (D - i) i (c, x)).1 else (chn (fun m => sCan P st K D k m (ln P k)) (D - i) i (c, x)).2), mk s) := by
  have hn8 := W.1
  have hD := W.2.2.2.1
  have hpO := plA_O h.1
  have hq := hpO.2.2.2.1 k (by omega)
  have hwk := W.2.2.2.2.2.2.2 k hk
  have ik : inB (nI k) 8 = true := inA_nI (by omega) (by omega)
  intro f
  induction f with
  | zero => intro i c x hf; omega
  | succ f ih =>
    intro i c x hf hi hc
    show bX11_chances_31 N (lX11_chances_31 N f) 0 (nI k) (nI w) (nI c) x (nI i) (mk s) = _
    unfold bX11_chances_31 bX11_chances_83
    simp (decide := true) only [ob_s, cS_l, cS_r, gI_k, gR_k, pI_k, pR_k, cV_k, aI_k, tI_k, rZ_0, rZ_1, rZ_i, aR_24, aR_25, aZ_k, tZ_k, rf_3_6, rf_3_7, rf_3_8, rf_5_0, rf_5_1, rf_5_3, rf_5_4, rf_5_5, rf_5_7, rf_6_4, rf_6_11, rf_1_0, rf_1_1, rf_0_6, rf_9_7, rf_9_8, rf_8_0, rf_11_0, rf_11_5, rf_11_6, rf_11_7, rf_11_9, rf_11_10, rf_11_11, rf_11_12, rf_11_3, rf_11_4, Nat.reduceAdd, Nat.zero_add, kc_0, kc_1, kc_34, kc_35, kc_36, kc_37, kc_38, kc_39, kc_40, kc_41, kc_42, kc_43, kc_44, kc_45, kc_46, kc_207, kc_208, kc_209, kc_210, kc_211, kc_212, kc_213, kc_214, kc_215, kc_216, kc_377, kc_378, kc_379, kc_380, kc_381, kc_382, kc_383, kc_384, kc_385, kc_386, kc_387, kc_388, kc_389, kc_390, kc_391, kc_392, kc_393, kc_394, kc_395, kc_414, kc_415, kc_416, kc_417, kc_418, kn_1, kn_36, kn_39, kn_41, kn_42, kn_43, kn_44, kn_45, kn_46, kn_209, kn_211, kn_212, kn_213, kn_214, kn_215, kn_216, kn_378, kn_380, kn_382, kn_383, kn_385, kn_386, kn_388, kn_390, kn_392, kn_393, kn_395, kn_414, kn_415, kn_417, kn_418, h.2.1, hpO.1, h.2.2.1.1]
    by_cases c1 : D ≤ i
    · rw [if_pos (nI_le c1 (by omega)), show D - i = 0 by omega]
      rcases (show w = 0 ∨ w = 1 by omega) with rfl | rfl
      · rw [if_neg (fun q => q rfl), if_pos rfl]; rfl
      · rw [if_pos (show ¬ nI 1 = 0 by decide), if_neg (show ¬ (1 : Nat) = 0 by omega)]; rfl
    · rw [if_neg (nI_ge (by omega) (by omega))]
      obtain ⟨g, hg, hg2⟩ := sub1 (show i < D by omega)
      have cw := c_would (N := N) (k := k) oo_381 (stA_O (Or.inl rfl)) hO h.2.2.2 Z.2.2.2 hq (h.2.2.1.2.2.2 k hk) hwk.1 hwk.2.1 (show i < D by omega) hD
      simp (decide := true) only [ob_s, cS_l, cS_r, gI_k, gR_k, pI_k, pR_k, cV_k, aI_k, tI_k, rZ_0, rZ_1, rZ_i, aR_24, aR_25, aZ_k, tZ_k, rf_3_6, rf_3_7, rf_3_8, rf_5_0, rf_5_1, rf_5_3, rf_5_4, rf_5_5, rf_5_7, rf_6_4, rf_6_11, rf_1_0, rf_1_1, rf_0_6, rf_9_7, rf_9_8, rf_8_0, rf_11_0, rf_11_5, rf_11_6, rf_11_7, rf_11_9, rf_11_10, rf_11_11, rf_11_12, rf_11_3, rf_11_4, Nat.reduceAdd, Nat.zero_add, kc_0, kc_1, kc_34, kc_35, kc_36, kc_37, kc_38, kc_39, kc_40, kc_41, kc_42, kc_43, kc_44, kc_45, kc_46, kc_207, kc_208, kc_209, kc_210, kc_211, kc_212, kc_213, kc_214, kc_215, kc_216, kc_377, kc_378, kc_379, kc_380, kc_381, kc_382, kc_383, kc_384, kc_385, kc_386, kc_387, kc_388, kc_389, kc_390, kc_391, kc_392, kc_393, kc_394, kc_395, kc_414, kc_415, kc_416, kc_417, kc_418, kn_1, kn_36, kn_39, kn_41, kn_42, kn_43, kn_44, kn_45, kn_46, kn_209, kn_211, kn_212, kn_213, kn_214, kn_215, kn_216, kn_378, kn_380, kn_382, kn_383, kn_385, kn_386, kn_388, kn_390, kn_392, kn_393, kn_395, kn_414, kn_415, kn_417, kn_418, hpO.2.1, hpO.2.2.1, ik, nI_clamp (show k < 2 ^ 31 by omega), cw, sk_0]
      unfold bX11_chances_77
      rw [nI_1, nI_1, hg, chn_s]
      cases hc2 : sCan P st K D k i (ln P k)
      · rw [if_pos rfl, ih (i + 1) c x (by omega) (by omega) (by omega), hg2]; rfl
      · rw [if_neg (by decide)]
        by_cases c3 : x = -1
        · rw [if_neg (fun q => q c3), ih (i + 1) (c + 1) (nI i) (by omega) (by omega) (by omega), hg2]
          simp only [if_true, if_pos c3]
        · rw [if_pos c3, ih (i + 1) (c + 1) x (by omega) (by omega) (by omega), hg2]
          simp only [if_true, if_neg c3]
theorem c_chances (hN1 : 1000 ≤ N) (W : Wp P n D mv) (Z : Ws st n D) (h : CQ s p P n D mv st K) (hk : k < n) (hw : w ≤ 1) : ∃ s', fX11_chances N 0 (nI k) (nI w) (mk s) = some (.inl (aCh P st K D k w), mk s') ∧ Fr cQ s s' := by
  have hn8 := W.1
  have hD := W.2.2.2.1
  obtain ⟨⟨h0, h0'⟩, _⟩ := Ws_n Z W.1 W.2.2.2.1
  obtain ⟨s1, a1, a2, a3⟩ := c_look (N := N) hN1 h hD
  have f1 : Fr cQ s s1 := Fr_m a3 (fun x j => oD_cQ)
  have h' := CQ_fr h hn8 f1
  refine ⟨s1, ?_, f1⟩
  have hq := c_reqWhat (N := N) (s := s) (l := 1) hw (by omega)
  rw [show nI 1 = (1 : Int32) from rfl] at hq
  have := c_ch31 (N := N) (w := w) W Z h' a2 hk hw N (nowN st) 0 (-1) (by omega) (by omega) (by omega)
  have e0 : s1.1 38 0 = nI (nowN st) := h'.2.2.2.1.trans h0
  unfold fX11_chances bX11_chances_0 aCh
  simp (decide := true) only [ob_s, cS_l, cS_r, gI_k, gR_k, pI_k, pR_k, cV_k, aI_k, tI_k, rZ_0, rZ_1, rZ_i, aR_24, aR_25, aZ_k, tZ_k, rf_3_6, rf_3_7, rf_3_8, rf_5_0, rf_5_1, rf_5_3, rf_5_4, rf_5_5, rf_5_7, rf_6_4, rf_6_11, rf_1_0, rf_1_1, rf_0_6, rf_9_7, rf_9_8, rf_8_0, rf_11_0, rf_11_5, rf_11_6, rf_11_7, rf_11_9, rf_11_10, rf_11_11, rf_11_12, rf_11_3, rf_11_4, Nat.reduceAdd, Nat.zero_add, kc_0, kc_1, kc_34, kc_35, kc_36, kc_37, kc_38, kc_39, kc_40, kc_41, kc_42, kc_43, kc_44, kc_45, kc_46, kc_207, kc_208, kc_209, kc_210, kc_211, kc_212, kc_213, kc_214, kc_215, kc_216, kc_377, kc_378, kc_379, kc_380, kc_381, kc_382, kc_383, kc_384, kc_385, kc_386, kc_387, kc_388, kc_389, kc_390, kc_391, kc_392, kc_393, kc_394, kc_395, kc_414, kc_415, kc_416, kc_417, kc_418, kn_1, kn_36, kn_39, kn_41, kn_42, kn_43, kn_44, kn_45, kn_46, kn_209, kn_211, kn_212, kn_213, kn_214, kn_215, kn_216, kn_378, kn_380, kn_382, kn_383, kn_385, kn_386, kn_388, kn_390, kn_392, kn_393, kn_395, kn_414, kn_415, kn_417, kn_418, c_reqShot h hk hn8, hq, a1, e0]
  exact this
theorem c_chances' {x y : Int32} (h : CQ s p P n D mv st K) (hn : n ≤ 8) (hx : (x < 0 ∨ (¬ x < 0 ∧ nI n ≤ x)) ∨ (∃ k, k < n ∧ x = nI k) ∧ (y < 0 ∨ (¬ y < 0 ∧ nI 2 ≤ y))) : fX11_chances N 0 x y (mk s) = some (.inr 1, mk s) := by
  unfold fX11_chances bX11_chances_0
  rcases hx with hx | ⟨⟨m, hm, rfl⟩, hy⟩
  · simp (decide := true) only [ob_s, cS_l, cS_r, gI_k, gR_k, pI_k, pR_k, cV_k, aI_k, tI_k, rZ_0, rZ_1, rZ_i, aR_24, aR_25, aZ_k, tZ_k, rf_3_6, rf_3_7, rf_3_8, rf_5_0, rf_5_1, rf_5_3, rf_5_4, rf_5_5, rf_5_7, rf_6_4, rf_6_11, rf_1_0, rf_1_1, rf_0_6, rf_9_7, rf_9_8, rf_8_0, rf_11_0, rf_11_5, rf_11_6, rf_11_7, rf_11_9, rf_11_10, rf_11_11, rf_11_12, rf_11_3, rf_11_4, Nat.reduceAdd, Nat.zero_add, kc_0, kc_1, kc_34, kc_35, kc_36, kc_37, kc_38, kc_39, kc_40, kc_41, kc_42, kc_43, kc_44, kc_45, kc_46, kc_207, kc_208, kc_209, kc_210, kc_211, kc_212, kc_213, kc_214, kc_215, kc_216, kc_377, kc_378, kc_379, kc_380, kc_381, kc_382, kc_383, kc_384, kc_385, kc_386, kc_387, kc_388, kc_389, kc_390, kc_391, kc_392, kc_393, kc_394, kc_395, kc_414, kc_415, kc_416, kc_417, kc_418, kn_1, kn_36, kn_39, kn_41, kn_42, kn_43, kn_44, kn_45, kn_46, kn_209, kn_211, kn_212, kn_213, kn_214, kn_215, kn_216, kn_378, kn_380, kn_382, kn_383, kn_385, kn_386, kn_388, kn_390, kn_392, kn_393, kn_395, kn_414, kn_415, kn_417, kn_418, c_reqShot' h hx]
  · have hq := c_reqWhat' (N := N) (s := s) (l := 1) hy (by omega)
    rw [show nI 1 = (1 : Int32) from rfl] at hq
    simp (decide := true) only [ob_s, cS_l, cS_r, gI_k, gR_k, pI_k, pR_k, cV_k, aI_k, tI_k, rZ_0, rZ_1, rZ_i, aR_24, aR_25, aZ_k, tZ_k, rf_3_6, rf_3_7, rf_3_8, rf_5_0, rf_5_1, rf_5_3, rf_5_4, rf_5_5, rf_5_7, rf_6_4, rf_6_11, rf_1_0, rf_1_1, rf_0_6, rf_9_7, rf_9_8, rf_8_0, rf_11_0, rf_11_5, rf_11_6, rf_11_7, rf_11_9, rf_11_10, rf_11_11, rf_11_12, rf_11_3, rf_11_4, Nat.reduceAdd, Nat.zero_add, kc_0, kc_1, kc_34, kc_35, kc_36, kc_37, kc_38, kc_39, kc_40, kc_41, kc_42, kc_43, kc_44, kc_45, kc_46, kc_207, kc_208, kc_209, kc_210, kc_211, kc_212, kc_213, kc_214, kc_215, kc_216, kc_377, kc_378, kc_379, kc_380, kc_381, kc_382, kc_383, kc_384, kc_385, kc_386, kc_387, kc_388, kc_389, kc_390, kc_391, kc_392, kc_393, kc_394, kc_395, kc_414, kc_415, kc_416, kc_417, kc_418, kn_1, kn_36, kn_39, kn_41, kn_42, kn_43, kn_44, kn_45, kn_46, kn_209, kn_211, kn_212, kn_213, kn_214, kn_215, kn_216, kn_378, kn_380, kn_382, kn_383, kn_385, kn_386, kn_388, kn_390, kn_392, kn_393, kn_395, kn_414, kn_415, kn_417, kn_418, c_reqShot h hm hn, hq]
theorem r_ch45 (hN1 : 1000 ≤ N) (W : Wp P n D mv) (h : RV s P st K D) (hk : k < n) (hw : w ≤ 1) : ∀ (f i c : Nat) (x : Int32), D - i < f → i ≤ D → c ≤ i → lX12_chances_45 N f 419 (nI k) (nI w) (nI c) x (nI i) (mk s) = some (.inl (if w = 0 then nI (chn (fun m => sCan P st K D k m (ln P k)) (D - i) i (c, x)).1 else (chn (fun m => sCan P st K D k m (ln P k)) (D - i) i (c, x)).2), mk s) := by
  have hn8 := W.1
  have hD := W.2.2.2.1
  have e1 : s.1 422 1 = nI D := (h.1 0 1 (by omega) (by omega)).trans W.2.2.2.2.1
  intro f
  induction f with
  | zero => intro i c x hf; omega
  | succ f ih =>
    intro i c x hf hi hc
    show bX12_chances_45 N (lX12_chances_45 N f) 419 (nI k) (nI w) (nI c) x (nI i) (mk s) = _
    unfold bX12_chances_45 bX12_chances_93
    simp (decide := true) only [ob_s, cS_l, cS_r, gI_k, gR_k, pI_k, pR_k, cV_k, aI_k, tI_k, rZ_0, rZ_1, rZ_i, rf_12_0, rf_12_1, rf_12_3, rf_12_4, rf_12_5, rf_12_6, rf_12_7, rf_12_8, rf_12_9, rf_12_10, rf_12_11, rf_12_12, rf_12_13, rf_12_14, rf_12_15, rf_12_26, rf_12_27, rf_12_31, rf_12_32, rf_12_33, rf_12_34, rf_12_41, rf_12_44, rf_12_47, rf_12_48, rf_12_49, rf_12_51, rf_12_55, rf_12_56, rf_12_57, rf_12_58, rf_12_59, rf_12_60, Nat.reduceAdd, kc_419, kc_420, kc_421, kc_422, kc_423, kc_424, kc_425, kc_426, kc_427, kc_428, kc_429, kc_430, kc_431, kc_432, kc_433, kc_434, kc_435, kc_436, kc_437, kc_438, kc_439, kc_440, kc_441, kc_442, kc_443, kc_444, kc_445, kc_446, kc_447, kc_448, kc_449, kc_450, kc_451, kc_452, kc_453, kn_420, kn_421, kn_422, kn_423, kn_424, kn_425, kn_426, kn_427, kn_428, kn_429, kn_430, kn_431, kn_432, kn_433, kn_434, kn_435, kn_436, kn_437, kn_438, kn_439, kn_440, kn_441, kn_442, kn_443, kn_444, kn_445, kn_446, kn_447, kn_448, kn_449, kn_450, kn_451, kn_452, kn_453, nc_1, e1]
    by_cases c1 : D ≤ i
    · rw [if_pos (nI_le c1 (by omega)), show D - i = 0 by omega]
      rcases (show w = 0 ∨ w = 1 by omega) with rfl | rfl
      · rw [if_neg (fun q => q rfl), if_pos rfl]; rfl
      · rw [if_pos (show ¬ nI 1 = 0 by decide), if_neg (show ¬ (1 : Nat) = 0 by omega)]; rfl
    · rw [if_neg (nI_ge (by omega) (by omega))]
      obtain ⟨g, hg, hg2⟩ := sub1 (show i < D by omega)
      simp (decide := true) only [ob_s, cS_l, cS_r, gI_k, gR_k, pI_k, pR_k, cV_k, aI_k, tI_k, rZ_0, rZ_1, rZ_i, rf_12_0, rf_12_1, rf_12_3, rf_12_4, rf_12_5, rf_12_6, rf_12_7, rf_12_8, rf_12_9, rf_12_10, rf_12_11, rf_12_12, rf_12_13, rf_12_14, rf_12_15, rf_12_26, rf_12_27, rf_12_31, rf_12_32, rf_12_33, rf_12_34, rf_12_41, rf_12_44, rf_12_47, rf_12_48, rf_12_49, rf_12_51, rf_12_55, rf_12_56, rf_12_57, rf_12_58, rf_12_59, rf_12_60, Nat.reduceAdd, kc_419, kc_420, kc_421, kc_422, kc_423, kc_424, kc_425, kc_426, kc_427, kc_428, kc_429, kc_430, kc_431, kc_432, kc_433, kc_434, kc_435, kc_436, kc_437, kc_438, kc_439, kc_440, kc_441, kc_442, kc_443, kc_444, kc_445, kc_446, kc_447, kc_448, kc_449, kc_450, kc_451, kc_452, kc_453, kn_420, kn_421, kn_422, kn_423, kn_424, kn_425, kn_426, kn_427, kn_428, kn_429, kn_430, kn_431, kn_432, kn_433, kn_434, kn_435, kn_436, kn_437, kn_438, kn_439, kn_440, kn_441, kn_442, kn_443, kn_444, kn_445, kn_446, kn_447, kn_448, kn_449, kn_450, kn_451, kn_452, kn_453, r_can hN1 W h hD hk (show i < 480 by omega), sk_0]
      unfold bX12_chances_85 bX12_chances_87
      rw [nI_1, nI_1, hg, chn_s]
      cases hc2 : sCan P st K D k i (ln P k)
      · rw [if_neg (fun q => q rfl), ih (i + 1) c x (by omega) (by omega) (by omega), hg2]; rfl
      · rw [if_pos (by decide)]
        by_cases c3 : x = -1
        · rw [if_neg (fun q => q c3), ih (i + 1) (c + 1) (nI i) (by omega) (by omega) (by omega), hg2]
          simp only [if_true, if_pos c3]
        · rw [if_pos c3, ih (i + 1) (c + 1) x (by omega) (by omega) (by omega), hg2]
          simp only [if_true, if_neg c3]
theorem r_chances (hN1 : 1000 ≤ N) (W : Wp P n D mv) (Z : Ws st n D) (h : RU s P st K) (hk : k < n) (hw : w ≤ 1) : ∃ s', fX12_chances N 419 (nI k) (nI w) (mk s) = some (.inl (aCh P st K D k w), mk s') ∧ s'.1 419 2 = 0 ∧ Fr rQ s s' := by
  have hD := W.2.2.2.1
  obtain ⟨⟨h0, h0'⟩, _⟩ := Ws_n Z W.1 W.2.2.2.1
  obtain ⟨b1, b2, b3⟩ := r_begin h W
  refine ⟨_, ?_, b2, b3⟩
  have := r_ch45 (N := N) (w := w) hN1 W b1 hk hw N (nowN st) 0 (-1) (by omega) (by omega) (by omega)
  have e0 : s.1 435 0 = nI (nowN st) := (h.2.1 0 (by omega)).trans h0
  unfold fX12_chances bX12_chances_0 aCh
  simp (decide := true) only [ob_s, cS_l, cS_r, gI_k, gR_k, pI_k, pR_k, cV_k, aI_k, tI_k, rZ_0, rZ_1, rZ_i, rf_12_0, rf_12_1, rf_12_3, rf_12_4, rf_12_5, rf_12_6, rf_12_7, rf_12_8, rf_12_9, rf_12_10, rf_12_11, rf_12_12, rf_12_13, rf_12_14, rf_12_15, rf_12_26, rf_12_27, rf_12_31, rf_12_32, rf_12_33, rf_12_34, rf_12_41, rf_12_44, rf_12_47, rf_12_48, rf_12_49, rf_12_51, rf_12_55, rf_12_56, rf_12_57, rf_12_58, rf_12_59, rf_12_60, Nat.reduceAdd, kc_419, kc_420, kc_421, kc_422, kc_423, kc_424, kc_425, kc_426, kc_427, kc_428, kc_429, kc_430, kc_431, kc_432, kc_433, kc_434, kc_435, kc_436, kc_437, kc_438, kc_439, kc_440, kc_441, kc_442, kc_443, kc_444, kc_445, kc_446, kc_447, kc_448, kc_449, kc_450, kc_451, kc_452, kc_453, kn_420, kn_421, kn_422, kn_423, kn_424, kn_425, kn_426, kn_427, kn_428, kn_429, kn_430, kn_431, kn_432, kn_433, kn_434, kn_435, kn_436, kn_437, kn_438, kn_439, kn_440, kn_441, kn_442, kn_443, kn_444, kn_445, kn_446, kn_447, kn_448, kn_449, kn_450, kn_451, kn_452, kn_453, r_isShot W h hk, if_false]
  rw [if_neg (nI_pos (by omega)), if_pos (show nI w ≤ 1 from nI_le (b := 1) hw (by omega))]
  simp (decide := true) only [ob_s, cS_l, cS_r, gI_k, gR_k, pI_k, pR_k, cV_k, aI_k, tI_k, rZ_0, rZ_1, rZ_i, rf_12_0, rf_12_1, rf_12_3, rf_12_4, rf_12_5, rf_12_6, rf_12_7, rf_12_8, rf_12_9, rf_12_10, rf_12_11, rf_12_12, rf_12_13, rf_12_14, rf_12_15, rf_12_26, rf_12_27, rf_12_31, rf_12_32, rf_12_33, rf_12_34, rf_12_41, rf_12_44, rf_12_47, rf_12_48, rf_12_49, rf_12_51, rf_12_55, rf_12_56, rf_12_57, rf_12_58, rf_12_59, rf_12_60, Nat.reduceAdd, kc_419, kc_420, kc_421, kc_422, kc_423, kc_424, kc_425, kc_426, kc_427, kc_428, kc_429, kc_430, kc_431, kc_432, kc_433, kc_434, kc_435, kc_436, kc_437, kc_438, kc_439, kc_440, kc_441, kc_442, kc_443, kc_444, kc_445, kc_446, kc_447, kc_448, kc_449, kc_450, kc_451, kc_452, kc_453, kn_420, kn_421, kn_422, kn_423, kn_424, kn_425, kn_426, kn_427, kn_428, kn_429, kn_430, kn_431, kn_432, kn_433, kn_434, kn_435, kn_436, kn_437, kn_438, kn_439, kn_440, kn_441, kn_442, kn_443, kn_444, kn_445, kn_446, kn_447, kn_448, kn_449, kn_450, kn_451, kn_452, kn_453, m_set]
  simp (decide := true) only [sI_c, Nat.reduceEqDiff, false_and, if_false]
  simp (decide := true) only [ob_s, cS_l, cS_r, gI_k, gR_k, pI_k, pR_k, cV_k, aI_k, tI_k, rZ_0, rZ_1, rZ_i, rf_12_0, rf_12_1, rf_12_3, rf_12_4, rf_12_5, rf_12_6, rf_12_7, rf_12_8, rf_12_9, rf_12_10, rf_12_11, rf_12_12, rf_12_13, rf_12_14, rf_12_15, rf_12_26, rf_12_27, rf_12_31, rf_12_32, rf_12_33, rf_12_34, rf_12_41, rf_12_44, rf_12_47, rf_12_48, rf_12_49, rf_12_51, rf_12_55, rf_12_56, rf_12_57, rf_12_58, rf_12_59, rf_12_60, Nat.reduceAdd, kc_419, kc_420, kc_421, kc_422, kc_423, kc_424, kc_425, kc_426, kc_427, kc_428, kc_429, kc_430, kc_431, kc_432, kc_433, kc_434, kc_435, kc_436, kc_437, kc_438, kc_439, kc_440, kc_441, kc_442, kc_443, kc_444, kc_445, kc_446, kc_447, kc_448, kc_449, kc_450, kc_451, kc_452, kc_453, kn_420, kn_421, kn_422, kn_423, kn_424, kn_425, kn_426, kn_427, kn_428, kn_429, kn_430, kn_431, kn_432, kn_433, kn_434, kn_435, kn_436, kn_437, kn_438, kn_439, kn_440, kn_441, kn_442, kn_443, kn_444, kn_445, kn_446, kn_447, kn_448, kn_449, kn_450, kn_451, kn_452, kn_453, nc_0, sI_c, Nat.reduceEqDiff, false_and, if_false, e0]
  exact this
theorem r_chances' {x y : Int32} (W : Wp P n D mv) (h : RU s P st K) (hx : ¬ (0 ≤ x ∧ x ≤ nI n - 1) ∨ (∃ k, k < n ∧ x = nI k) ∧ (y < 0 ∨ (¬ y < 0 ∧ nI 2 ≤ y))) : fX12_chances N 419 x y (mk s) = some (.inl 0, mk (sI (sI s 419 2 0) 419 2 1)) := by
  unfold fX12_chances bX12_chances_0 bX12_chances_22
  rcases hx with hx | ⟨⟨m, hm, rfl⟩, hy⟩
  · simp (decide := true) only [ob_s, cS_l, cS_r, gI_k, gR_k, pI_k, pR_k, cV_k, aI_k, tI_k, rZ_0, rZ_1, rZ_i, rf_12_0, rf_12_1, rf_12_3, rf_12_4, rf_12_5, rf_12_6, rf_12_7, rf_12_8, rf_12_9, rf_12_10, rf_12_11, rf_12_12, rf_12_13, rf_12_14, rf_12_15, rf_12_26, rf_12_27, rf_12_31, rf_12_32, rf_12_33, rf_12_34, rf_12_41, rf_12_44, rf_12_47, rf_12_48, rf_12_49, rf_12_51, rf_12_55, rf_12_56, rf_12_57, rf_12_58, rf_12_59, rf_12_60, Nat.reduceAdd, kc_419, kc_420, kc_421, kc_422, kc_423, kc_424, kc_425, kc_426, kc_427, kc_428, kc_429, kc_430, kc_431, kc_432, kc_433, kc_434, kc_435, kc_436, kc_437, kc_438, kc_439, kc_440, kc_441, kc_442, kc_443, kc_444, kc_445, kc_446, kc_447, kc_448, kc_449, kc_450, kc_451, kc_452, kc_453, kn_420, kn_421, kn_422, kn_423, kn_424, kn_425, kn_426, kn_427, kn_428, kn_429, kn_430, kn_431, kn_432, kn_433, kn_434, kn_435, kn_436, kn_437, kn_438, kn_439, kn_440, kn_441, kn_442, kn_443, kn_444, kn_445, kn_446, kn_447, kn_448, kn_449, kn_450, kn_451, kn_452, kn_453, r_isShot' W h hx, r_bad1, if_true]
  · simp (decide := true) only [ob_s, cS_l, cS_r, gI_k, gR_k, pI_k, pR_k, cV_k, aI_k, tI_k, rZ_0, rZ_1, rZ_i, rf_12_0, rf_12_1, rf_12_3, rf_12_4, rf_12_5, rf_12_6, rf_12_7, rf_12_8, rf_12_9, rf_12_10, rf_12_11, rf_12_12, rf_12_13, rf_12_14, rf_12_15, rf_12_26, rf_12_27, rf_12_31, rf_12_32, rf_12_33, rf_12_34, rf_12_41, rf_12_44, rf_12_47, rf_12_48, rf_12_49, rf_12_51, rf_12_55, rf_12_56, rf_12_57, rf_12_58, rf_12_59, rf_12_60, Nat.reduceAdd, kc_419, kc_420, kc_421, kc_422, kc_423, kc_424, kc_425, kc_426, kc_427, kc_428, kc_429, kc_430, kc_431, kc_432, kc_433, kc_434, kc_435, kc_436, kc_437, kc_438, kc_439, kc_440, kc_441, kc_442, kc_443, kc_444, kc_445, kc_446, kc_447, kc_448, kc_449, kc_450, kc_451, kc_452, kc_453, kn_420, kn_421, kn_422, kn_423, kn_424, kn_425, kn_426, kn_427, kn_428, kn_429, kn_430, kn_431, kn_432, kn_433, kn_434, kn_435, kn_436, kn_437, kn_438, kn_439, kn_440, kn_441, kn_442, kn_443, kn_444, kn_445, kn_446, kn_447, kn_448, kn_449, kn_450, kn_451, kn_452, kn_453, r_isShot W h hm, r_bad1, if_false]
    rcases hy with hy | hy
    · rw [if_pos hy]
    · rw [if_neg hy.1, if_neg (fun q => w1 (Or.inr hy) ⟨hy.1, q⟩)]
end SM
