/- needs: 21.nat -/
/-! the reference's day: light, why, endures, stays -/
abbrev mPl (s : sg) : pln := fun f => s.1 (422 + f)
/-- the sky of the reference -/
def mSky (s : sg) (K : Nat → Bool) : Prop := ∀ m, m < 480 → s.1 429 m = sk_i (K m)
section MD
variable {N : Nat} {s : sg} {K : Nat → Bool}
theorem nI0 : nI 0 = 0 := rfl
theorem m_lightOf {k m : Nat} (hK : mSky s K) (hk : k < 16) (hm : m < 480) : fX12_lightOf N 419 (nI k) (nI m) (mk s) = some (.inl (sk_i (sLt (mPl s) (s.1 435) K k m)), mk s) := by
  have ik : inB (nI k) 16 = true := inA_nI hk (by omega)
  have im : inB (nI m) 960 = true := inA_nI (by omega) (by omega)
  have hs := hK m hm
  unfold fX12_lightOf bX12_lightOf_0 bX12_lightOf_36 bX12_lightOf_61
  simp (decide := true) only [Option.bind_some, cS_inl, cS_inr, gI_k, gR_k, pI_k, pR_k, cV_k, aI_k, tI_k, rZ_0, rZ_1, rZ_i, rf_12_0, rf_12_1, rf_12_3, rf_12_4, rf_12_5, rf_12_6, rf_12_7, rf_12_8, rf_12_9, rf_12_10, rf_12_11, rf_12_12, rf_12_13, rf_12_14, rf_12_15, rf_12_26, rf_12_27, rf_12_31, rf_12_32, rf_12_33, rf_12_34, rf_12_41, rf_12_44, rf_12_47, rf_12_48, rf_12_49, rf_12_51, rf_12_55, rf_12_56, rf_12_57, rf_12_58, rf_12_59, rf_12_60, Nat.reduceAdd, kc_419, kc_420, kc_421, kc_422, kc_423, kc_424, kc_425, kc_426, kc_427, kc_428, kc_429, kc_430, kc_431, kc_432, kc_433, kc_434, kc_435, kc_436, kc_437, kc_438, kc_439, kc_440, kc_441, kc_442, kc_443, kc_444, kc_445, kc_446, kc_447, kc_448, kc_449, kc_450, kc_451, kc_452, kc_453, kn_420, kn_421, kn_422, kn_423, kn_424, kn_425, kn_426, kn_427, kn_428, kn_429, kn_430, kn_431, kn_432, kn_433, kn_434, kn_435, kn_436, kn_437, kn_438, kn_439, kn_440, kn_441, kn_442, kn_443, kn_444, kn_445, kn_446, kn_447, kn_448, kn_449, kn_450, kn_451, kn_452, kn_453, ik, im, nI_clamp (show k < 2 ^ 31 by omega), nI_clamp (show m < 2 ^ 31 by omega), nc_5, nc_6, hs]
  unfold sLt mPl
  by_cases h1 : s.1 423 k = 2
  · simp [h1, sk_i]
  · by_cases h2 : s.1 423 k = 1
    · by_cases h3 : s.1 435 5 = 1
      · simp (decide := true) [h1, h2, h3, sk_i]
      · by_cases h4 : s.1 435 6 = 1
        · simp (decide := true) [h1, h2, h3, h4, sk_i]
        · simp (decide := true) [h1, h2, h3, h4]
    · simp [h1, h2]
theorem m_isLit {k m : Nat} (hK : mSky s K) (hk : k < 16) (hm : m < 480) : fX12_isLit N 419 (nI k) (nI m) (mk s) = some (.inl (sk_i (sLit (mPl s) (s.1 435) K k m)), mk s) := by
  have ik : inB (nI k) 16 = true := inA_nI hk (by omega)
  unfold fX12_isLit bX12_isLit_0 bX12_isLit_34 bX12_isLit_49 bX12_isLit_52
  simp (decide := true) only [Option.bind_some, cS_inl, cS_inr, gI_k, gR_k, pI_k, pR_k, cV_k, aI_k, tI_k, rZ_0, rZ_1, rZ_i, rf_12_0, rf_12_1, rf_12_3, rf_12_4, rf_12_5, rf_12_6, rf_12_7, rf_12_8, rf_12_9, rf_12_10, rf_12_11, rf_12_12, rf_12_13, rf_12_14, rf_12_15, rf_12_26, rf_12_27, rf_12_31, rf_12_32, rf_12_33, rf_12_34, rf_12_41, rf_12_44, rf_12_47, rf_12_48, rf_12_49, rf_12_51, rf_12_55, rf_12_56, rf_12_57, rf_12_58, rf_12_59, rf_12_60, Nat.reduceAdd, kc_419, kc_420, kc_421, kc_422, kc_423, kc_424, kc_425, kc_426, kc_427, kc_428, kc_429, kc_430, kc_431, kc_432, kc_433, kc_434, kc_435, kc_436, kc_437, kc_438, kc_439, kc_440, kc_441, kc_442, kc_443, kc_444, kc_445, kc_446, kc_447, kc_448, kc_449, kc_450, kc_451, kc_452, kc_453, kn_420, kn_421, kn_422, kn_423, kn_424, kn_425, kn_426, kn_427, kn_428, kn_429, kn_430, kn_431, kn_432, kn_433, kn_434, kn_435, kn_436, kn_437, kn_438, kn_439, kn_440, kn_441, kn_442, kn_443, kn_444, kn_445, kn_446, kn_447, kn_448, kn_449, kn_450, kn_451, kn_452, kn_453, ik, nI_clamp (show k < 2 ^ 31 by omega), m_lightOf hK hk hm]
  unfold sLit
  generalize sLt (mPl s) (s.1 435) K k m = b
  unfold mPl
  by_cases h1 : s.1 423 k = 2
  · simp [h1, sk_i, rZ]
  · by_cases h2 : s.1 424 k = 0
    · simp [h1, h2, sk_i, rZ]
    · by_cases h3 : s.1 424 k = 1 <;> cases b <;> simp (decide := true) [h1, h2, h3, sk_i, rZ]
theorem m_stays {D m : Nat} (hK : mSky s K) (hD : s.1 419 30 = nI D) (hD2 : D ≤ 480) (hm : m < D) : ∀ (f i : Nat), D - (m + i) < f → i ≤ 480 → lX12_staysFor_2 N f 419 (nI m) (nI i) (mk s) = some (.inl (nI (i + rl K (K m) (D - (m + i)) (m + i))), mk s) := by
  intro f
  induction f with
  | zero => intro i h; omega
  | succ f ih =>
    intro i hf hi
    show bX12_staysFor_2 N (lX12_staysFor_2 N f) 419 (nI m) (nI i) (mk s) = _
    unfold bX12_staysFor_2 bX12_staysFor_35
    simp (decide := true) only [Option.bind_some, cS_inl, cS_inr, gI_k, gR_k, pI_k, pR_k, cV_k, aI_k, tI_k, rZ_0, rZ_1, rZ_i, rf_12_0, rf_12_1, rf_12_3, rf_12_4, rf_12_5, rf_12_6, rf_12_7, rf_12_8, rf_12_9, rf_12_10, rf_12_11, rf_12_12, rf_12_13, rf_12_14, rf_12_15, rf_12_26, rf_12_27, rf_12_31, rf_12_32, rf_12_33, rf_12_34, rf_12_41, rf_12_44, rf_12_47, rf_12_48, rf_12_49, rf_12_51, rf_12_55, rf_12_56, rf_12_57, rf_12_58, rf_12_59, rf_12_60, Nat.reduceAdd, kc_419, kc_420, kc_421, kc_422, kc_423, kc_424, kc_425, kc_426, kc_427, kc_428, kc_429, kc_430, kc_431, kc_432, kc_433, kc_434, kc_435, kc_436, kc_437, kc_438, kc_439, kc_440, kc_441, kc_442, kc_443, kc_444, kc_445, kc_446, kc_447, kc_448, kc_449, kc_450, kc_451, kc_452, kc_453, kn_420, kn_421, kn_422, kn_423, kn_424, kn_425, kn_426, kn_427, kn_428, kn_429, kn_430, kn_431, kn_432, kn_433, kn_434, kn_435, kn_436, kn_437, kn_438, kn_439, kn_440, kn_441, kn_442, kn_443, kn_444, kn_445, kn_446, kn_447, kn_448, kn_449, kn_450, kn_451, kn_452, kn_453, nI_add, hD]
    by_cases h1 : D ≤ m + i
    · rw [if_pos (nI_le h1 (by omega)), show D - (m + i) = 0 by omega]
      rfl
    · have h2 : m + i < D := by omega
      have ia : inB (nI (m + i)) 960 = true := inA_nI (by omega) (by omega)
      have im : inB (nI m) 960 = true := inA_nI (by omega) (by omega)
      rw [if_neg (nI_ge h2 (by omega))]
      simp (decide := true) only [Option.bind_some, cS_inl, cS_inr, gI_k, gR_k, pI_k, pR_k, cV_k, aI_k, tI_k, rZ_0, rZ_1, rZ_i, rf_12_0, rf_12_1, rf_12_3, rf_12_4, rf_12_5, rf_12_6, rf_12_7, rf_12_8, rf_12_9, rf_12_10, rf_12_11, rf_12_12, rf_12_13, rf_12_14, rf_12_15, rf_12_26, rf_12_27, rf_12_31, rf_12_32, rf_12_33, rf_12_34, rf_12_41, rf_12_44, rf_12_47, rf_12_48, rf_12_49, rf_12_51, rf_12_55, rf_12_56, rf_12_57, rf_12_58, rf_12_59, rf_12_60, Nat.reduceAdd, kc_419, kc_420, kc_421, kc_422, kc_423, kc_424, kc_425, kc_426, kc_427, kc_428, kc_429, kc_430, kc_431, kc_432, kc_433, kc_434, kc_435, kc_436, kc_437, kc_438, kc_439, kc_440, kc_441, kc_442, kc_443, kc_444, kc_445, kc_446, kc_447, kc_448, kc_449, kc_450, kc_451, kc_452, kc_453, kn_420, kn_421, kn_422, kn_423, kn_424, kn_425, kn_426, kn_427, kn_428, kn_429, kn_430, kn_431, kn_432, kn_433, kn_434, kn_435, kn_436, kn_437, kn_438, kn_439, kn_440, kn_441, kn_442, kn_443, kn_444, kn_445, kn_446, kn_447, kn_448, kn_449, kn_450, kn_451, kn_452, kn_453, ia, im, nI_clamp (show m + i < 2 ^ 31 by omega), nI_clamp (show m < 2 ^ 31 by omega), hK (m + i) (by omega), hK m (by omega), sk_inj]
      obtain ⟨g, hg⟩ : ∃ g, D - (m + i) = g + 1 := ⟨D - (m + i) - 1, by omega⟩
      rw [hg, rl_s]
      by_cases h3 : K (m + i) = K m
      · rw [if_neg (fun q => q h3), if_pos h3, nI_1, ih (i + 1) (by omega) (by omega), show D - (m + (i + 1)) = g by omega]
        congr 3
        rw [show m + (i + 1) = m + i + 1 by omega]
        congr 1
        omega
      · rw [if_pos h3, if_neg h3]
        rfl
theorem m_staysFor {D m : Nat} (hN : 1000 ≤ N) (hK : mSky s K) (hD : s.1 419 30 = nI D) (hD2 : D ≤ 480) (hm : m < D) : fX12_staysFor N 419 (nI m) (mk s) = some (.inl (nI (stays K D m)), mk s) := by
  have h := m_stays (N := N) hK hD hD2 hm N 1 (by omega) (by omega)
  unfold fX12_staysFor bX12_staysFor_0
  refine h.trans ?_
  congr 3
  unfold stays
  obtain ⟨g, hg⟩ : ∃ g, D - m = g + 1 := ⟨D - m - 1, by omega⟩
  rw [hg, rl_s, if_pos rfl, show D - (m + 1) = g by omega]
  congr 1
  omega
theorem m_why75 {D k m : Nat} {s0 s1 : Int32} (hK : mSky s K) (hD : s.1 419 30 = nI D) (hk : k < 16) (hm : m < 480) : bX12_whyNow_75 N 419 (nI k) (nI m) s0 s1 (mk s) = some (.inl (if s0 = s1 then sMin (mPl s) (s.1 435) K D k m else 3), mk s) := by
  have ik : inB (nI k) 16 = true := inA_nI hk (by omega)
  unfold bX12_whyNow_75
  simp (decide := true) only [Option.bind_some, cS_inl, cS_inr, gI_k, gR_k, pI_k, pR_k, cV_k, aI_k, tI_k, rZ_0, rZ_1, rZ_i, rf_12_0, rf_12_1, rf_12_3, rf_12_4, rf_12_5, rf_12_6, rf_12_7, rf_12_8, rf_12_9, rf_12_10, rf_12_11, rf_12_12, rf_12_13, rf_12_14, rf_12_15, rf_12_26, rf_12_27, rf_12_31, rf_12_32, rf_12_33, rf_12_34, rf_12_41, rf_12_44, rf_12_47, rf_12_48, rf_12_49, rf_12_51, rf_12_55, rf_12_56, rf_12_57, rf_12_58, rf_12_59, rf_12_60, Nat.reduceAdd, kc_419, kc_420, kc_421, kc_422, kc_423, kc_424, kc_425, kc_426, kc_427, kc_428, kc_429, kc_430, kc_431, kc_432, kc_433, kc_434, kc_435, kc_436, kc_437, kc_438, kc_439, kc_440, kc_441, kc_442, kc_443, kc_444, kc_445, kc_446, kc_447, kc_448, kc_449, kc_450, kc_451, kc_452, kc_453, kn_420, kn_421, kn_422, kn_423, kn_424, kn_425, kn_426, kn_427, kn_428, kn_429, kn_430, kn_431, kn_432, kn_433, kn_434, kn_435, kn_436, kn_437, kn_438, kn_439, kn_440, kn_441, kn_442, kn_443, kn_444, kn_445, kn_446, kn_447, kn_448, kn_449, kn_450, kn_451, kn_452, kn_453, ik, nI_clamp (show k < 2 ^ 31 by omega), m_isLit hK hk hm, hD, sk_0, Bool.not_eq_false]
  unfold sMin
  repeat' split
  all_goals rfl
theorem m_whyNow {D k m : Nat} (hK : mSky s K) (hD : s.1 419 30 = nI D) (hk : k < 16) (hm : m < 480) : fX12_whyNow N 419 (nI k) (nI m) (mk s) = some (.inl (sWhy (mPl s) (s.1 435) K D k m), mk s) := by
  have ik : inB (nI k) 16 = true := inA_nI hk (by omega)
  unfold fX12_whyNow bX12_whyNow_0 bX12_whyNow_45 bX12_whyNow_60
  simp (decide := true) only [Option.bind_some, cS_inl, cS_inr, gI_k, gR_k, pI_k, pR_k, cV_k, aI_k, tI_k, rZ_0, rZ_1, rZ_i, rf_12_0, rf_12_1, rf_12_3, rf_12_4, rf_12_5, rf_12_6, rf_12_7, rf_12_8, rf_12_9, rf_12_10, rf_12_11, rf_12_12, rf_12_13, rf_12_14, rf_12_15, rf_12_26, rf_12_27, rf_12_31, rf_12_32, rf_12_33, rf_12_34, rf_12_41, rf_12_44, rf_12_47, rf_12_48, rf_12_49, rf_12_51, rf_12_55, rf_12_56, rf_12_57, rf_12_58, rf_12_59, rf_12_60, Nat.reduceAdd, kc_419, kc_420, kc_421, kc_422, kc_423, kc_424, kc_425, kc_426, kc_427, kc_428, kc_429, kc_430, kc_431, kc_432, kc_433, kc_434, kc_435, kc_436, kc_437, kc_438, kc_439, kc_440, kc_441, kc_442, kc_443, kc_444, kc_445, kc_446, kc_447, kc_448, kc_449, kc_450, kc_451, kc_452, kc_453, kn_420, kn_421, kn_422, kn_423, kn_424, kn_425, kn_426, kn_427, kn_428, kn_429, kn_430, kn_431, kn_432, kn_433, kn_434, kn_435, kn_436, kn_437, kn_438, kn_439, kn_440, kn_441, kn_442, kn_443, kn_444, kn_445, kn_446, kn_447, kn_448, kn_449, kn_450, kn_451, kn_452, kn_453, ik, nI_clamp (show k < 2 ^ 31 by omega), m_why75 hK hD hk hm, m_isOf, nc_1, nc_2, sb_eq0]
  unfold sWhy sBit
  generalize sMin (mPl s) (s.1 435) K D k m = z
  unfold mPl
  by_cases h1 : (s.1 435 2 >>> (nI k &&& 31)) &&& 1 = 1
  · simp [h1]
  · by_cases h2 : s.1 428 k = -1
    · by_cases h3 : s.1 423 k = 2 <;> by_cases h4 : s.1 435 1 = 1 <;> simp (decide := true) [h1, h2, h3, h4]
    · by_cases h5 : (s.1 435 2 >>> (s.1 428 k &&& 31)) &&& 1 = 1
      · by_cases h3 : s.1 423 k = 2 <;> by_cases h4 : s.1 435 1 = 1 <;> simp (decide := true) [h1, h2, h3, h4, h5]
      · simp [h1, h2, h5]
/-- the length of a shot as a number -/
def okL (P : pln) (k ℓ : Nat) : Prop := P 3 k = nI ℓ ∧ 1 ≤ ℓ ∧ ℓ ≤ 30
theorem m_end19 {k m ℓ : Nat} (hK : mSky s K) (hk : k < 16) (hl : okL (mPl s) k ℓ) (hm : m + ℓ ≤ 480) : ∀ (f i : Nat), ℓ - i < f → i ≤ 31 → lX12_endures_19 N f 419 (nI k) (nI m) (nI i) (mk s) = some (.inl (sk_i (sEnd (mPl s) (s.1 435) K k m (ℓ - i) i)), mk s) := by
  have ik : inB (nI k) 16 = true := inA_nI hk (by omega)
  have hl1 : s.1 425 k = nI ℓ := hl.1
  have hl2 := hl.2
  intro f
  induction f with
  | zero => intro i h; omega
  | succ f ih =>
    intro i hf hi
    show bX12_endures_19 N (lX12_endures_19 N f) 419 (nI k) (nI m) (nI i) (mk s) = _
    unfold bX12_endures_19
    simp (decide := true) only [Option.bind_some, cS_inl, cS_inr, gI_k, gR_k, pI_k, pR_k, cV_k, aI_k, tI_k, rZ_0, rZ_1, rZ_i, rf_12_0, rf_12_1, rf_12_3, rf_12_4, rf_12_5, rf_12_6, rf_12_7, rf_12_8, rf_12_9, rf_12_10, rf_12_11, rf_12_12, rf_12_13, rf_12_14, rf_12_15, rf_12_26, rf_12_27, rf_12_31, rf_12_32, rf_12_33, rf_12_34, rf_12_41, rf_12_44, rf_12_47, rf_12_48, rf_12_49, rf_12_51, rf_12_55, rf_12_56, rf_12_57, rf_12_58, rf_12_59, rf_12_60, Nat.reduceAdd, kc_419, kc_420, kc_421, kc_422, kc_423, kc_424, kc_425, kc_426, kc_427, kc_428, kc_429, kc_430, kc_431, kc_432, kc_433, kc_434, kc_435, kc_436, kc_437, kc_438, kc_439, kc_440, kc_441, kc_442, kc_443, kc_444, kc_445, kc_446, kc_447, kc_448, kc_449, kc_450, kc_451, kc_452, kc_453, kn_420, kn_421, kn_422, kn_423, kn_424, kn_425, kn_426, kn_427, kn_428, kn_429, kn_430, kn_431, kn_432, kn_433, kn_434, kn_435, kn_436, kn_437, kn_438, kn_439, kn_440, kn_441, kn_442, kn_443, kn_444, kn_445, kn_446, kn_447, kn_448, kn_449, kn_450, kn_451, kn_452, kn_453, ik, nI_clamp (show k < 2 ^ 31 by omega), hl1, nI_add]
    by_cases h1 : ℓ ≤ i
    · rw [if_pos (nI_le h1 (by omega)), show ℓ - i = 0 by omega]
      rfl
    · rw [if_neg (nI_ge (by omega) (by omega))]
      simp (decide := true) only [Option.bind_some, cS_inl, cS_inr, gI_k, gR_k, pI_k, pR_k, cV_k, aI_k, tI_k, rZ_0, rZ_1, rZ_i, rf_12_0, rf_12_1, rf_12_3, rf_12_4, rf_12_5, rf_12_6, rf_12_7, rf_12_8, rf_12_9, rf_12_10, rf_12_11, rf_12_12, rf_12_13, rf_12_14, rf_12_15, rf_12_26, rf_12_27, rf_12_31, rf_12_32, rf_12_33, rf_12_34, rf_12_41, rf_12_44, rf_12_47, rf_12_48, rf_12_49, rf_12_51, rf_12_55, rf_12_56, rf_12_57, rf_12_58, rf_12_59, rf_12_60, Nat.reduceAdd, kc_419, kc_420, kc_421, kc_422, kc_423, kc_424, kc_425, kc_426, kc_427, kc_428, kc_429, kc_430, kc_431, kc_432, kc_433, kc_434, kc_435, kc_436, kc_437, kc_438, kc_439, kc_440, kc_441, kc_442, kc_443, kc_444, kc_445, kc_446, kc_447, kc_448, kc_449, kc_450, kc_451, kc_452, kc_453, kn_420, kn_421, kn_422, kn_423, kn_424, kn_425, kn_426, kn_427, kn_428, kn_429, kn_430, kn_431, kn_432, kn_433, kn_434, kn_435, kn_436, kn_437, kn_438, kn_439, kn_440, kn_441, kn_442, kn_443, kn_444, kn_445, kn_446, kn_447, kn_448, kn_449, kn_450, kn_451, kn_452, kn_453, m_lightOf hK hk (show m + i < 480 by omega), m_lightOf hK hk (show m < 480 by omega), sk_inj]
      obtain ⟨g, hg⟩ : ∃ g, ℓ - i = g + 1 := ⟨ℓ - i - 1, by omega⟩
      rw [hg, sEnd_s]
      by_cases h3 : sLt (mPl s) (s.1 435) K k (m + i) = sLt (mPl s) (s.1 435) K k m
      · rw [if_pos h3, if_pos h3, nI_1, ih (i + 1) (by omega) (by omega), show ℓ - (i + 1) = g by omega]
      · rw [if_neg h3, if_neg h3]; rfl
def sEn (P : pln) (st : Nat → Int32) (K : Nat → Bool) (D k m ℓ : Nat) : Bool := decide (m + ℓ ≤ D) && sEnd P st K k m (ℓ - 1) 1
theorem m_endures {D k m ℓ : Nat} (hN : 1000 ≤ N) (hK : mSky s K) (hD : s.1 419 30 = nI D) (hD2 : D ≤ 480) (hk : k < 16) (hl : okL (mPl s) k ℓ) (hm : m < 480) : fX12_endures N 419 (nI k) (nI m) (mk s) = some (.inl (sk_i (sEn (mPl s) (s.1 435) K D k m ℓ)), mk s) := by
  have ik : inB (nI k) 16 = true := inA_nI hk (by omega)
  have hl1 : s.1 425 k = nI ℓ := hl.1
  have hl2 := hl.2
  unfold fX12_endures bX12_endures_0 sEn
  simp (decide := true) only [Option.bind_some, cS_inl, cS_inr, gI_k, gR_k, pI_k, pR_k, cV_k, aI_k, tI_k, rZ_0, rZ_1, rZ_i, rf_12_0, rf_12_1, rf_12_3, rf_12_4, rf_12_5, rf_12_6, rf_12_7, rf_12_8, rf_12_9, rf_12_10, rf_12_11, rf_12_12, rf_12_13, rf_12_14, rf_12_15, rf_12_26, rf_12_27, rf_12_31, rf_12_32, rf_12_33, rf_12_34, rf_12_41, rf_12_44, rf_12_47, rf_12_48, rf_12_49, rf_12_51, rf_12_55, rf_12_56, rf_12_57, rf_12_58, rf_12_59, rf_12_60, Nat.reduceAdd, kc_419, kc_420, kc_421, kc_422, kc_423, kc_424, kc_425, kc_426, kc_427, kc_428, kc_429, kc_430, kc_431, kc_432, kc_433, kc_434, kc_435, kc_436, kc_437, kc_438, kc_439, kc_440, kc_441, kc_442, kc_443, kc_444, kc_445, kc_446, kc_447, kc_448, kc_449, kc_450, kc_451, kc_452, kc_453, kn_420, kn_421, kn_422, kn_423, kn_424, kn_425, kn_426, kn_427, kn_428, kn_429, kn_430, kn_431, kn_432, kn_433, kn_434, kn_435, kn_436, kn_437, kn_438, kn_439, kn_440, kn_441, kn_442, kn_443, kn_444, kn_445, kn_446, kn_447, kn_448, kn_449, kn_450, kn_451, kn_452, kn_453, ik, nI_clamp (show k < 2 ^ 31 by omega), hl1, nI_add, hD]
  by_cases h : m + ℓ ≤ D
  · rw [if_pos (nI_le h (by omega))]
    have h9 := m_end19 (N := N) hK hk hl (show m + ℓ ≤ 480 by omega) N 1 (by omega) (by omega)
    rw [show (1 : Int32) = nI 1 from rfl, h9]
    simp [h]
  · rw [if_neg (nI_ge (by omega) (by omega))]
    simp [h, rZ, sk_i]
theorem m_go2 {k m ℓ : Nat} (hK : mSky s K) (hk : k < 16) (hl : okL (mPl s) k ℓ) (hm : m + ℓ ≤ 480) : ∀ (f i : Nat), ℓ - i < f → i ≤ ℓ → lX12_goesFor_2 N f 419 (nI k) (nI m) (nI i) (mk s) = some (.inl (nI (sGo (mPl s) (s.1 435) K k m (ℓ - i) i)), mk s) := by
  have ik : inB (nI k) 16 = true := inA_nI hk (by omega)
  have hl1 : s.1 425 k = nI ℓ := hl.1
  have hl2 := hl.2
  intro f
  induction f with
  | zero => intro i h; omega
  | succ f ih =>
    intro i hf hi
    show bX12_goesFor_2 N (lX12_goesFor_2 N f) 419 (nI k) (nI m) (nI i) (mk s) = _
    unfold bX12_goesFor_2 bX12_goesFor_39 bX12_goesFor_29
    simp (decide := true) only [Option.bind_some, cS_inl, cS_inr, gI_k, gR_k, pI_k, pR_k, cV_k, aI_k, tI_k, rZ_0, rZ_1, rZ_i, rf_12_0, rf_12_1, rf_12_3, rf_12_4, rf_12_5, rf_12_6, rf_12_7, rf_12_8, rf_12_9, rf_12_10, rf_12_11, rf_12_12, rf_12_13, rf_12_14, rf_12_15, rf_12_26, rf_12_27, rf_12_31, rf_12_32, rf_12_33, rf_12_34, rf_12_41, rf_12_44, rf_12_47, rf_12_48, rf_12_49, rf_12_51, rf_12_55, rf_12_56, rf_12_57, rf_12_58, rf_12_59, rf_12_60, Nat.reduceAdd, kc_419, kc_420, kc_421, kc_422, kc_423, kc_424, kc_425, kc_426, kc_427, kc_428, kc_429, kc_430, kc_431, kc_432, kc_433, kc_434, kc_435, kc_436, kc_437, kc_438, kc_439, kc_440, kc_441, kc_442, kc_443, kc_444, kc_445, kc_446, kc_447, kc_448, kc_449, kc_450, kc_451, kc_452, kc_453, kn_420, kn_421, kn_422, kn_423, kn_424, kn_425, kn_426, kn_427, kn_428, kn_429, kn_430, kn_431, kn_432, kn_433, kn_434, kn_435, kn_436, kn_437, kn_438, kn_439, kn_440, kn_441, kn_442, kn_443, kn_444, kn_445, kn_446, kn_447, kn_448, kn_449, kn_450, kn_451, kn_452, kn_453, ik, nI_clamp (show k < 2 ^ 31 by omega), hl1, nI_add]
    by_cases h1 : ℓ ≤ i
    · rw [if_pos (nI_le h1 (by omega)), show ℓ - i = 0 by omega, show i = ℓ by omega]
      rfl
    · rw [if_neg (nI_ge (by omega) (by omega))]
      simp (decide := true) only [Option.bind_some, cS_inl, cS_inr, gI_k, gR_k, pI_k, pR_k, cV_k, aI_k, tI_k, rZ_0, rZ_1, rZ_i, rf_12_0, rf_12_1, rf_12_3, rf_12_4, rf_12_5, rf_12_6, rf_12_7, rf_12_8, rf_12_9, rf_12_10, rf_12_11, rf_12_12, rf_12_13, rf_12_14, rf_12_15, rf_12_26, rf_12_27, rf_12_31, rf_12_32, rf_12_33, rf_12_34, rf_12_41, rf_12_44, rf_12_47, rf_12_48, rf_12_49, rf_12_51, rf_12_55, rf_12_56, rf_12_57, rf_12_58, rf_12_59, rf_12_60, Nat.reduceAdd, kc_419, kc_420, kc_421, kc_422, kc_423, kc_424, kc_425, kc_426, kc_427, kc_428, kc_429, kc_430, kc_431, kc_432, kc_433, kc_434, kc_435, kc_436, kc_437, kc_438, kc_439, kc_440, kc_441, kc_442, kc_443, kc_444, kc_445, kc_446, kc_447, kc_448, kc_449, kc_450, kc_451, kc_452, kc_453, kn_420, kn_421, kn_422, kn_423, kn_424, kn_425, kn_426, kn_427, kn_428, kn_429, kn_430, kn_431, kn_432, kn_433, kn_434, kn_435, kn_436, kn_437, kn_438, kn_439, kn_440, kn_441, kn_442, kn_443, kn_444, kn_445, kn_446, kn_447, kn_448, kn_449, kn_450, kn_451, kn_452, kn_453, m_lightOf hK hk (show m + i < 480 by omega), m_lightOf hK hk (show m < 480 by omega), sk_inj]
      obtain ⟨g, hg⟩ : ∃ g, ℓ - i = g + 1 := ⟨ℓ - i - 1, by omega⟩
      rw [hg, sGo_s]
      by_cases h3 : sLt (mPl s) (s.1 435) K k (m + i) = sLt (mPl s) (s.1 435) K k m
      · rw [if_pos h3, if_pos h3, nI_1, ih (i + 1) (by omega) (by omega), show ℓ - (i + 1) = g by omega]
      · rw [if_neg h3, if_neg h3, nI_1]
theorem m_goesFor {k m ℓ : Nat} (hN : 1000 ≤ N) (hK : mSky s K) (hk : k < 16) (hl : okL (mPl s) k ℓ) (hm : m + ℓ ≤ 480) : fX12_goesFor N 419 (nI k) (nI m) (mk s) = some (.inl (nI (sGo (mPl s) (s.1 435) K k m (ℓ - 1) 1)), mk s) := by
  have hl2 := hl.2
  unfold fX12_goesFor bX12_goesFor_0
  exact m_go2 (N := N) hK hk hl hm N 1 (by omega) (by omega)
def sCan (P : pln) (st : Nat → Int32) (K : Nat → Bool) (D k m ℓ : Nat) : Bool := decide (P 4 k ≤ nI m) && decide (nI m ≤ P 5 k) && sLit P st K k m && sEn P st K D k m ℓ
theorem m_canBeHad {D k m ℓ : Nat} (hN : 1000 ≤ N) (hK : mSky s K) (hD : s.1 419 30 = nI D) (hD2 : D ≤ 480) (hk : k < 16) (hl : okL (mPl s) k ℓ) (hm : m < 480) : fX12_canBeHad N 419 (nI k) (nI m) (mk s) = some (.inl (sk_i (sCan (mPl s) (s.1 435) K D k m ℓ)), mk s) := by
  have ik : inB (nI k) 16 = true := inA_nI hk (by omega)
  unfold fX12_canBeHad bX12_canBeHad_0 sCan
  simp (decide := true) only [Option.bind_some, cS_inl, cS_inr, gI_k, gR_k, pI_k, pR_k, cV_k, aI_k, tI_k, rZ_0, rZ_1, rZ_i, rf_12_0, rf_12_1, rf_12_3, rf_12_4, rf_12_5, rf_12_6, rf_12_7, rf_12_8, rf_12_9, rf_12_10, rf_12_11, rf_12_12, rf_12_13, rf_12_14, rf_12_15, rf_12_26, rf_12_27, rf_12_31, rf_12_32, rf_12_33, rf_12_34, rf_12_41, rf_12_44, rf_12_47, rf_12_48, rf_12_49, rf_12_51, rf_12_55, rf_12_56, rf_12_57, rf_12_58, rf_12_59, rf_12_60, Nat.reduceAdd, kc_419, kc_420, kc_421, kc_422, kc_423, kc_424, kc_425, kc_426, kc_427, kc_428, kc_429, kc_430, kc_431, kc_432, kc_433, kc_434, kc_435, kc_436, kc_437, kc_438, kc_439, kc_440, kc_441, kc_442, kc_443, kc_444, kc_445, kc_446, kc_447, kc_448, kc_449, kc_450, kc_451, kc_452, kc_453, kn_420, kn_421, kn_422, kn_423, kn_424, kn_425, kn_426, kn_427, kn_428, kn_429, kn_430, kn_431, kn_432, kn_433, kn_434, kn_435, kn_436, kn_437, kn_438, kn_439, kn_440, kn_441, kn_442, kn_443, kn_444, kn_445, kn_446, kn_447, kn_448, kn_449, kn_450, kn_451, kn_452, kn_453, ik, nI_clamp (show k < 2 ^ 31 by omega), m_isLit hK hk hm, m_endures hN hK hD hD2 hk hl hm, sk_0]
  generalize sLit (mPl s) (s.1 435) K k m = b1
  generalize sEn (mPl s) (s.1 435) K D k m ℓ = b2
  unfold mPl
  by_cases h1 : nI m < s.1 426 k
  · simp [h1, Int32.not_le.mpr h1, sk_i]
  · by_cases h2 : s.1 427 k < nI m
    · simp [h1, h2, Int32.not_le.mpr h2, sk_i]
    · have h3 := Int32.not_lt.mp h1
      have h4 := Int32.not_lt.mp h2
      cases b1 <;> cases b2 <;> simp [h1, h2, h3, h4, sk_i]
/-- what a take leaves -/
def sTk (st : Nat → Int32) (k n : Nat) (had : Bool) : Nat → Int32 := fun j => if j = 0 then st 0 + nI n else if j = 4 then st 4 + nI n else if j = 3 then 0 else if had then (if j = 2 then st 2 ||| ((1 : Int32) <<< (nI k &&& 31)) else st j) else (if j = 7 + k then st (7 + k) + 1 else st j)
theorem m_takes {D k m ℓ : Nat} (hN : 1000 ≤ N) (hK : mSky s K) (hD : s.1 419 30 = nI D) (hD2 : D ≤ 480) (hk : k < 8) (hl : okL (mPl s) k ℓ) (hm : m + ℓ ≤ D) (hnow : s.1 435 0 = nI m) : fX12_takes N 419 (nI k) (mk s) = some (.inl (sk_i (sEn (mPl s) (s.1 435) K D k m ℓ)), mk (sA s 435 (sTk (s.1 435) k (sGo (mPl s) (s.1 435) K k m (ℓ - 1) 1) (sEn (mPl s) (s.1 435) K D k m ℓ)))) := by
  have hl2 := hl.2
  have i7 : inB (7 + nI k) 15 = true := by rw [show (7 : Int32) = nI 7 from rfl, nI_add]; exact inA_nI (by omega) (by omega)
  have c7 : (7 + nI k).toNatClampNeg = 7 + k := by rw [show (7 : Int32) = nI 7 from rfl, nI_add, nI_clamp (by omega)]
  unfold fX12_takes bX12_takes_0 bX12_takes_83
  simp (decide := true) only [Option.bind_some, cS_inl, cS_inr, gI_k, gR_k, pI_k, pR_k, cV_k, aI_k, tI_k, rZ_0, rZ_1, rZ_i, rf_12_0, rf_12_1, rf_12_3, rf_12_4, rf_12_5, rf_12_6, rf_12_7, rf_12_8, rf_12_9, rf_12_10, rf_12_11, rf_12_12, rf_12_13, rf_12_14, rf_12_15, rf_12_26, rf_12_27, rf_12_31, rf_12_32, rf_12_33, rf_12_34, rf_12_41, rf_12_44, rf_12_47, rf_12_48, rf_12_49, rf_12_51, rf_12_55, rf_12_56, rf_12_57, rf_12_58, rf_12_59, rf_12_60, Nat.reduceAdd, kc_419, kc_420, kc_421, kc_422, kc_423, kc_424, kc_425, kc_426, kc_427, kc_428, kc_429, kc_430, kc_431, kc_432, kc_433, kc_434, kc_435, kc_436, kc_437, kc_438, kc_439, kc_440, kc_441, kc_442, kc_443, kc_444, kc_445, kc_446, kc_447, kc_448, kc_449, kc_450, kc_451, kc_452, kc_453, kn_420, kn_421, kn_422, kn_423, kn_424, kn_425, kn_426, kn_427, kn_428, kn_429, kn_430, kn_431, kn_432, kn_433, kn_434, kn_435, kn_436, kn_437, kn_438, kn_439, kn_440, kn_441, kn_442, kn_443, kn_444, kn_445, kn_446, kn_447, kn_448, kn_449, kn_450, kn_451, kn_452, kn_453, nc_0, hnow, m_endures hN hK hD hD2 (show k < 16 by omega) hl (show m < 480 by omega), m_goesFor hN hK (show k < 16 by omega) hl (show m + ℓ ≤ 480 by omega), nc_2, nc_3, nc_4, i7, c7, sk_0, sI_c]
  generalize sGo (mPl s) (s.1 435) K k m (ℓ - 1) 1 = n
  generalize sEn (mPl s) (s.1 435) K D k m ℓ = b
  cases b
  · simp only [if_true]
    show some (Sum.inl (sk_i false), mk _) = _
    congr 3
    refine sg_ext (fun a j => ?_) rfl
    simp only [sI_1, sA_1, sTk]
    by_cases ha : a = 435
    · subst ha
      by_cases h0 : j = 0
      · subst h0; simp [hnow]; omega
      · by_cases h4 : j = 4
        · subst h4; simp; omega
        · by_cases h3 : j = 3
          · subst h3; simp; omega
          · by_cases h7 : j = 7 + k
            · subst h7; simp [h0, h4, h3]
            · simp [h0, h4, h3, h7]
    · simp [ha]
  · simp only [Bool.true_eq_false, if_false]
    show some (Sum.inl (sk_i true), mk _) = _
    congr 3
    refine sg_ext (fun a j => ?_) rfl
    simp only [sI_1, sA_1, sTk]
    by_cases ha : a = 435
    · subst ha
      by_cases h0 : j = 0
      · subst h0; simp [hnow]
      · by_cases h4 : j = 4
        · subst h4; simp
        · by_cases h3 : j = 3
          · subst h3; simp
          · by_cases h7 : j = 2
            · subst h7; simp [h0, h4, h3]
            · simp [h0, h4, h3, h7]
    · simp [ha]
/-- what going over leaves -/
def sMv (st : Nat → Int32) (mv : Int32) : Nat → Int32 := fun j => if j = 0 then st 0 + mv else if j = 1 then 1 - st 1 else if j = 3 then 0 else st j
theorem m_moves : fX12_moves N 419 (mk s) = some (.inl (), mk (sA s 435 (sMv (s.1 435) (s.1 422 2)))) := by
  unfold fX12_moves bX12_moves_0
  simp (decide := true) only [Option.bind_some, cS_inl, cS_inr, gI_k, gR_k, pI_k, pR_k, cV_k, aI_k, tI_k, rZ_0, rZ_1, rZ_i, rf_12_0, rf_12_1, rf_12_3, rf_12_4, rf_12_5, rf_12_6, rf_12_7, rf_12_8, rf_12_9, rf_12_10, rf_12_11, rf_12_12, rf_12_13, rf_12_14, rf_12_15, rf_12_26, rf_12_27, rf_12_31, rf_12_32, rf_12_33, rf_12_34, rf_12_41, rf_12_44, rf_12_47, rf_12_48, rf_12_49, rf_12_51, rf_12_55, rf_12_56, rf_12_57, rf_12_58, rf_12_59, rf_12_60, Nat.reduceAdd, kc_419, kc_420, kc_421, kc_422, kc_423, kc_424, kc_425, kc_426, kc_427, kc_428, kc_429, kc_430, kc_431, kc_432, kc_433, kc_434, kc_435, kc_436, kc_437, kc_438, kc_439, kc_440, kc_441, kc_442, kc_443, kc_444, kc_445, kc_446, kc_447, kc_448, kc_449, kc_450, kc_451, kc_452, kc_453, kn_420, kn_421, kn_422, kn_423, kn_424, kn_425, kn_426, kn_427, kn_428, kn_429, kn_430, kn_431, kn_432, kn_433, kn_434, kn_435, kn_436, kn_437, kn_438, kn_439, kn_440, kn_441, kn_442, kn_443, kn_444, kn_445, kn_446, kn_447, kn_448, kn_449, kn_450, kn_451, kn_452, kn_453, nc_0, nc_1, nc_2, nc_3, sI_c]
  congr 3
  refine sg_ext (fun a j => ?_) rfl
  simp only [sI_1, sA_1, sMv]
  by_cases ha : a = 435
  · subst ha
    by_cases h0 : j = 0
    · subst h0; simp
    · by_cases h4 : j = 1
      · subst h4; simp
      · by_cases h3 : j = 3
        · subst h3; simp
        · simp [h0, h4, h3]
  · simp [ha]
theorem m_refuse {w : Nat} (hw : w < 3) : fX12_refuse N 419 (nI w) (mk s) = some (.inl (-1), mk (sI s 433 w (s.1 433 w + 1))) := by
  have iw : inB (nI w) 3 = true := inA_nI hw (by omega)
  unfold fX12_refuse bX12_refuse_0
  simp (decide := true) only [Option.bind_some, cS_inl, cS_inr, gI_k, gR_k, pI_k, pR_k, cV_k, aI_k, tI_k, rZ_0, rZ_1, rZ_i, rf_12_0, rf_12_1, rf_12_3, rf_12_4, rf_12_5, rf_12_6, rf_12_7, rf_12_8, rf_12_9, rf_12_10, rf_12_11, rf_12_12, rf_12_13, rf_12_14, rf_12_15, rf_12_26, rf_12_27, rf_12_31, rf_12_32, rf_12_33, rf_12_34, rf_12_41, rf_12_44, rf_12_47, rf_12_48, rf_12_49, rf_12_51, rf_12_55, rf_12_56, rf_12_57, rf_12_58, rf_12_59, rf_12_60, Nat.reduceAdd, kc_419, kc_420, kc_421, kc_422, kc_423, kc_424, kc_425, kc_426, kc_427, kc_428, kc_429, kc_430, kc_431, kc_432, kc_433, kc_434, kc_435, kc_436, kc_437, kc_438, kc_439, kc_440, kc_441, kc_442, kc_443, kc_444, kc_445, kc_446, kc_447, kc_448, kc_449, kc_450, kc_451, kc_452, kc_453, kn_420, kn_421, kn_422, kn_423, kn_424, kn_425, kn_426, kn_427, kn_428, kn_429, kn_430, kn_431, kn_432, kn_433, kn_434, kn_435, kn_436, kn_437, kn_438, kn_439, kn_440, kn_441, kn_442, kn_443, kn_444, kn_445, kn_446, kn_447, kn_448, kn_449, kn_450, kn_451, kn_452, kn_453, iw, nI_clamp (show w < 2 ^ 31 by omega)]
end MD
