/- needs: 20.nmem 16.m2 16.aJ -/
/-! small things of the reference -/
def sb (p : Prop) [Decidable p] : Int32 := sk_i (decide p)
theorem sb_pos {p : Prop} [Decidable p] (h : p) : sb p = 1 := by simp [sb, h, sk_i]
theorem sb_neg {p : Prop} [Decidable p] (h : ¬ p) : sb p = 0 := by simp [sb, h, sk_i]
theorem sb_eq0 {p : Prop} [Decidable p] : (sb p = 0) = ¬ p := by
  by_cases h : p
  · rw [sb_pos h]; simp [h]
  · rw [sb_neg h]; simp [h]
theorem sb_eq1 {p : Prop} [Decidable p] : (sb p = 1) = p := by
  by_cases h : p
  · rw [sb_pos h]; simp [h]
  · rw [sb_neg h]; simp [h]
theorem rZ_sb {p : Prop} [Decidable p] (c : mm_C) : rZ (sb p) c = some (.inl (sb p), c) := rZ_i _ c
theorem i64_lt (x y : Int32) : (x.toInt64 < y.toInt64) ↔ x < y := by
  rw [Int64.lt_iff_toInt_lt, Int32.lt_iff_toInt_lt, Int32.toInt_toInt64, Int32.toInt_toInt64]
theorem i64_le (x y : Int32) : (x.toInt64 ≤ y.toInt64) ↔ x ≤ y := by
  rw [Int64.le_iff_toInt_le, Int32.le_iff_toInt_le, Int32.toInt_toInt64, Int32.toInt_toInt64]
theorem lc_lt0 (x y : Int64) : (lg_cmp x y < 0) = (x < y) := by
  have e1 : x > y ↔ y.toInt < x.toInt := Int64.lt_iff_toInt_lt
  have e2 : x < y ↔ x.toInt < y.toInt := Int64.lt_iff_toInt_lt
  have e3 : x = y ↔ x.toInt = y.toInt := Int64.toInt_inj.symm
  rw [eq_iff_iff]
  unfold lg_cmp
  by_cases h : x > y
  · rw [if_pos h]
    exact ⟨fun q => absurd q (by decide), fun q => absurd (e2.mp q) (by have := e1.mp h; omega)⟩
  · rw [if_neg h]
    by_cases h2 : x = y
    · rw [if_pos h2]
      exact ⟨fun q => absurd q (by decide), fun q => absurd (e2.mp q) (by have := e3.mp h2; omega)⟩
    · rw [if_neg h2]
      refine ⟨fun _ => e2.mpr ?_, fun _ => by decide⟩
      have q1 : ¬ y.toInt < x.toInt := fun q => h (e1.mpr q)
      have q2 : ¬ x.toInt = y.toInt := fun q => h2 (e3.mpr q)
      omega
theorem lc_gt0 (x y : Int64) : (0 < lg_cmp x y) = (y < x) := by
  rw [eq_iff_iff]
  unfold lg_cmp
  by_cases h : x > y
  · rw [if_pos h]
    exact ⟨fun _ => h, fun _ => by decide⟩
  · rw [if_neg h]
    by_cases h2 : x = y
    · rw [if_pos h2]
      exact ⟨fun q => absurd q (by decide), fun q => absurd q h⟩
    · rw [if_neg h2]
      exact ⟨fun q => absurd q (by decide), fun q => absurd q h⟩
theorem m_isIn (N : Nat) (s : sg) (v a b : Int64) : fX12_isIn N v a b (mk s) = some (.inl (sb (a ≤ v ∧ v ≤ b)), mk s) := by
  unfold fX12_isIn bX12_isIn_0
  simp only [lc_lt0, lc_gt0]
  by_cases h1 : v < a
  · rw [if_pos h1, sb_neg (fun q => Int64.not_lt.mpr q.1 h1)]; rfl
  · rw [if_neg h1]
    by_cases h2 : b < v
    · rw [if_pos h2, sb_neg (fun q => Int64.not_lt.mpr q.2 h2)]; rfl
    · rw [if_neg h2, sb_pos ⟨Int64.not_lt.mp h1, Int64.not_lt.mp h2⟩]; rfl
theorem m_isOf (N : Nat) (s : sg) (v k : Int32) : fX12_isOf N v k (mk s) = some (.inl (sb ((v >>> (k &&& 31)) &&& 1 = 1)), mk s) := by
  unfold fX12_isOf bX12_isOf_0
  by_cases h : (v >>> (k &&& 31)) &&& 1 = 1
  · rw [if_neg (fun q => q h), sb_pos h]; rfl
  · rw [if_pos h, sb_neg h]; rfl
theorem m_isShot (N : Nat) (s : sg) (k : Int32) : fX12_isShot N 419 k (mk s) = some (.inl (sb (0 ≤ k ∧ k ≤ s.1 422 0 - 1)), mk s) := by
  unfold fX12_isShot bX12_isShot_0
  simp (decide := true) only [Option.bind_some, cS_inl, cS_inr, gI_k, gR_k, pI_k, pR_k, cV_k, aI_k, tI_k, rZ_0, rZ_1, rZ_i, rf_12_0, rf_12_1, rf_12_3, rf_12_4, rf_12_5, rf_12_6, rf_12_7, rf_12_8, rf_12_9, rf_12_10, rf_12_11, rf_12_12, rf_12_13, rf_12_14, rf_12_15, rf_12_26, rf_12_27, rf_12_31, rf_12_32, rf_12_33, rf_12_34, rf_12_41, rf_12_44, rf_12_47, rf_12_48, rf_12_49, rf_12_51, rf_12_55, rf_12_56, rf_12_57, rf_12_58, rf_12_59, rf_12_60, Nat.reduceAdd, kc_419, kc_420, kc_421, kc_422, kc_423, kc_424, kc_425, kc_426, kc_427, kc_428, kc_429, kc_430, kc_431, kc_432, kc_433, kc_434, kc_435, kc_436, kc_437, kc_438, kc_439, kc_440, kc_441, kc_442, kc_443, kc_444, kc_445, kc_446, kc_447, kc_448, kc_449, kc_450, kc_451, kc_452, kc_453, kn_420, kn_421, kn_422, kn_423, kn_424, kn_425, kn_426, kn_427, kn_428, kn_429, kn_430, kn_431, kn_432, kn_433, kn_434, kn_435, kn_436, kn_437, kn_438, kn_439, kn_440, kn_441, kn_442, kn_443, kn_444, kn_445, kn_446, kn_447, kn_448, kn_449, kn_450, kn_451, kn_452, kn_453, m_isIn, rZ_sb]
  have h0 : (0 : Int64) = (0 : Int32).toInt64 := by decide
  simp only [h0, i64_le]
  rfl
theorem m_isMinute (N : Nat) (s : sg) (k : Int32) : fX12_isMinute N 419 k (mk s) = some (.inl (sb (0 ≤ k ∧ k ≤ s.1 422 1 - 1)), mk s) := by
  unfold fX12_isMinute bX12_isMinute_0
  simp (decide := true) only [Option.bind_some, cS_inl, cS_inr, gI_k, gR_k, pI_k, pR_k, cV_k, aI_k, tI_k, rZ_0, rZ_1, rZ_i, rf_12_0, rf_12_1, rf_12_3, rf_12_4, rf_12_5, rf_12_6, rf_12_7, rf_12_8, rf_12_9, rf_12_10, rf_12_11, rf_12_12, rf_12_13, rf_12_14, rf_12_15, rf_12_26, rf_12_27, rf_12_31, rf_12_32, rf_12_33, rf_12_34, rf_12_41, rf_12_44, rf_12_47, rf_12_48, rf_12_49, rf_12_51, rf_12_55, rf_12_56, rf_12_57, rf_12_58, rf_12_59, rf_12_60, Nat.reduceAdd, kc_419, kc_420, kc_421, kc_422, kc_423, kc_424, kc_425, kc_426, kc_427, kc_428, kc_429, kc_430, kc_431, kc_432, kc_433, kc_434, kc_435, kc_436, kc_437, kc_438, kc_439, kc_440, kc_441, kc_442, kc_443, kc_444, kc_445, kc_446, kc_447, kc_448, kc_449, kc_450, kc_451, kc_452, kc_453, kn_420, kn_421, kn_422, kn_423, kn_424, kn_425, kn_426, kn_427, kn_428, kn_429, kn_430, kn_431, kn_432, kn_433, kn_434, kn_435, kn_436, kn_437, kn_438, kn_439, kn_440, kn_441, kn_442, kn_443, kn_444, kn_445, kn_446, kn_447, kn_448, kn_449, kn_450, kn_451, kn_452, kn_453, m_isIn, rZ_sb]
  have h0 : (0 : Int64) = (0 : Int32).toInt64 := by decide
  simp only [h0, i64_le]
  rfl
theorem m_isRule (N : Nat) (s : sg) (k : Int32) : fX12_isRule N 419 k (mk s) = some (.inl (sb (-1 ≤ k ∧ k ≤ s.1 422 4 - 1)), mk s) := by
  unfold fX12_isRule bX12_isRule_0
  simp (decide := true) only [Option.bind_some, cS_inl, cS_inr, gI_k, gR_k, pI_k, pR_k, cV_k, aI_k, tI_k, rZ_0, rZ_1, rZ_i, rf_12_0, rf_12_1, rf_12_3, rf_12_4, rf_12_5, rf_12_6, rf_12_7, rf_12_8, rf_12_9, rf_12_10, rf_12_11, rf_12_12, rf_12_13, rf_12_14, rf_12_15, rf_12_26, rf_12_27, rf_12_31, rf_12_32, rf_12_33, rf_12_34, rf_12_41, rf_12_44, rf_12_47, rf_12_48, rf_12_49, rf_12_51, rf_12_55, rf_12_56, rf_12_57, rf_12_58, rf_12_59, rf_12_60, Nat.reduceAdd, kc_419, kc_420, kc_421, kc_422, kc_423, kc_424, kc_425, kc_426, kc_427, kc_428, kc_429, kc_430, kc_431, kc_432, kc_433, kc_434, kc_435, kc_436, kc_437, kc_438, kc_439, kc_440, kc_441, kc_442, kc_443, kc_444, kc_445, kc_446, kc_447, kc_448, kc_449, kc_450, kc_451, kc_452, kc_453, kn_420, kn_421, kn_422, kn_423, kn_424, kn_425, kn_426, kn_427, kn_428, kn_429, kn_430, kn_431, kn_432, kn_433, kn_434, kn_435, kn_436, kn_437, kn_438, kn_439, kn_440, kn_441, kn_442, kn_443, kn_444, kn_445, kn_446, kn_447, kn_448, kn_449, kn_450, kn_451, kn_452, kn_453, m_isIn, rZ_sb]
  have h0 : (-1 : Int64) = (-1 : Int32).toInt64 := by decide
  simp only [h0, i64_le]
  rfl
theorem m_fail (N : Nat) (s : sg) (k : Int32) : fX12_fail N 419 k (mk s) = some (.inl 0, mk (sI s 419 2 k)) := by
  unfold fX12_fail bX12_fail_0
  simp (decide := true) only [Option.bind_some, cS_inl, cS_inr, gI_k, gR_k, pI_k, pR_k, cV_k, aI_k, tI_k, rZ_0, rZ_1, rZ_i, rf_12_0, rf_12_1, rf_12_3, rf_12_4, rf_12_5, rf_12_6, rf_12_7, rf_12_8, rf_12_9, rf_12_10, rf_12_11, rf_12_12, rf_12_13, rf_12_14, rf_12_15, rf_12_26, rf_12_27, rf_12_31, rf_12_32, rf_12_33, rf_12_34, rf_12_41, rf_12_44, rf_12_47, rf_12_48, rf_12_49, rf_12_51, rf_12_55, rf_12_56, rf_12_57, rf_12_58, rf_12_59, rf_12_60, Nat.reduceAdd, kc_419, kc_420, kc_421, kc_422, kc_423, kc_424, kc_425, kc_426, kc_427, kc_428, kc_429, kc_430, kc_431, kc_432, kc_433, kc_434, kc_435, kc_436, kc_437, kc_438, kc_439, kc_440, kc_441, kc_442, kc_443, kc_444, kc_445, kc_446, kc_447, kc_448, kc_449, kc_450, kc_451, kc_452, kc_453, kn_420, kn_421, kn_422, kn_423, kn_424, kn_425, kn_426, kn_427, kn_428, kn_429, kn_430, kn_431, kn_432, kn_433, kn_434, kn_435, kn_436, kn_437, kn_438, kn_439, kn_440, kn_441, kn_442, kn_443, kn_444, kn_445, kn_446, kn_447, kn_448, kn_449, kn_450, kn_451, kn_452, kn_453]
theorem m_thrown (N : Nat) (s : sg) : fX12_thrown N 419 (mk s) = some (.inl (s.1 419 2), mk s) := by
  unfold fX12_thrown bX12_thrown_0
  simp (decide := true) only [Option.bind_some, cS_inl, cS_inr, gI_k, gR_k, pI_k, pR_k, cV_k, aI_k, tI_k, rZ_0, rZ_1, rZ_i, rf_12_0, rf_12_1, rf_12_3, rf_12_4, rf_12_5, rf_12_6, rf_12_7, rf_12_8, rf_12_9, rf_12_10, rf_12_11, rf_12_12, rf_12_13, rf_12_14, rf_12_15, rf_12_26, rf_12_27, rf_12_31, rf_12_32, rf_12_33, rf_12_34, rf_12_41, rf_12_44, rf_12_47, rf_12_48, rf_12_49, rf_12_51, rf_12_55, rf_12_56, rf_12_57, rf_12_58, rf_12_59, rf_12_60, Nat.reduceAdd, kc_419, kc_420, kc_421, kc_422, kc_423, kc_424, kc_425, kc_426, kc_427, kc_428, kc_429, kc_430, kc_431, kc_432, kc_433, kc_434, kc_435, kc_436, kc_437, kc_438, kc_439, kc_440, kc_441, kc_442, kc_443, kc_444, kc_445, kc_446, kc_447, kc_448, kc_449, kc_450, kc_451, kc_452, kc_453, kn_420, kn_421, kn_422, kn_423, kn_424, kn_425, kn_426, kn_427, kn_428, kn_429, kn_430, kn_431, kn_432, kn_433, kn_434, kn_435, kn_436, kn_437, kn_438, kn_439, kn_440, kn_441, kn_442, kn_443, kn_444, kn_445, kn_446, kn_447, kn_448, kn_449, kn_450, kn_451, kn_452, kn_453]
theorem m_fault (N : Nat) (s : sg) : fX12_fault N 419 (mk s) = some (.inl ((sI s 419 2 0).1 419 25), mk (sI s 419 2 0)) := by
  unfold fX12_fault bX12_fault_0
  simp (decide := true) only [Option.bind_some, cS_inl, cS_inr, gI_k, gR_k, pI_k, pR_k, cV_k, aI_k, tI_k, rZ_0, rZ_1, rZ_i, rf_12_0, rf_12_1, rf_12_3, rf_12_4, rf_12_5, rf_12_6, rf_12_7, rf_12_8, rf_12_9, rf_12_10, rf_12_11, rf_12_12, rf_12_13, rf_12_14, rf_12_15, rf_12_26, rf_12_27, rf_12_31, rf_12_32, rf_12_33, rf_12_34, rf_12_41, rf_12_44, rf_12_47, rf_12_48, rf_12_49, rf_12_51, rf_12_55, rf_12_56, rf_12_57, rf_12_58, rf_12_59, rf_12_60, Nat.reduceAdd, kc_419, kc_420, kc_421, kc_422, kc_423, kc_424, kc_425, kc_426, kc_427, kc_428, kc_429, kc_430, kc_431, kc_432, kc_433, kc_434, kc_435, kc_436, kc_437, kc_438, kc_439, kc_440, kc_441, kc_442, kc_443, kc_444, kc_445, kc_446, kc_447, kc_448, kc_449, kc_450, kc_451, kc_452, kc_453, kn_420, kn_421, kn_422, kn_423, kn_424, kn_425, kn_426, kn_427, kn_428, kn_429, kn_430, kn_431, kn_432, kn_433, kn_434, kn_435, kn_436, kn_437, kn_438, kn_439, kn_440, kn_441, kn_442, kn_443, kn_444, kn_445, kn_446, kn_447, kn_448, kn_449, kn_450, kn_451, kn_452, kn_453]
theorem m_set (N : Nat) (s : sg) : fX12_set N 419 (mk s) = some (.inl (), mk (sI s 419 30 (s.1 422 1))) := by
  unfold fX12_set bX12_set_0
  simp (decide := true) only [Option.bind_some, cS_inl, cS_inr, gI_k, gR_k, pI_k, pR_k, cV_k, aI_k, tI_k, rZ_0, rZ_1, rZ_i, rf_12_0, rf_12_1, rf_12_3, rf_12_4, rf_12_5, rf_12_6, rf_12_7, rf_12_8, rf_12_9, rf_12_10, rf_12_11, rf_12_12, rf_12_13, rf_12_14, rf_12_15, rf_12_26, rf_12_27, rf_12_31, rf_12_32, rf_12_33, rf_12_34, rf_12_41, rf_12_44, rf_12_47, rf_12_48, rf_12_49, rf_12_51, rf_12_55, rf_12_56, rf_12_57, rf_12_58, rf_12_59, rf_12_60, Nat.reduceAdd, kc_419, kc_420, kc_421, kc_422, kc_423, kc_424, kc_425, kc_426, kc_427, kc_428, kc_429, kc_430, kc_431, kc_432, kc_433, kc_434, kc_435, kc_436, kc_437, kc_438, kc_439, kc_440, kc_441, kc_442, kc_443, kc_444, kc_445, kc_446, kc_447, kc_448, kc_449, kc_450, kc_451, kc_452, kc_453, kn_420, kn_421, kn_422, kn_423, kn_424, kn_425, kn_426, kn_427, kn_428, kn_429, kn_430, kn_431, kn_432, kn_433, kn_434, kn_435, kn_436, kn_437, kn_438, kn_439, kn_440, kn_441, kn_442, kn_443, kn_444, kn_445, kn_446, kn_447, kn_448, kn_449, kn_450, kn_451, kn_452, kn_453]
  rfl
theorem m_forget (N : Nat) (s : sg) : fX12_forget N 419 (mk s) = some (.inl (), mk (sI (sI s 419 2 0) 419 29 0)) := by
  unfold fX12_forget bX12_forget_0
  simp (decide := true) only [Option.bind_some, cS_inl, cS_inr, gI_k, gR_k, pI_k, pR_k, cV_k, aI_k, tI_k, rZ_0, rZ_1, rZ_i, rf_12_0, rf_12_1, rf_12_3, rf_12_4, rf_12_5, rf_12_6, rf_12_7, rf_12_8, rf_12_9, rf_12_10, rf_12_11, rf_12_12, rf_12_13, rf_12_14, rf_12_15, rf_12_26, rf_12_27, rf_12_31, rf_12_32, rf_12_33, rf_12_34, rf_12_41, rf_12_44, rf_12_47, rf_12_48, rf_12_49, rf_12_51, rf_12_55, rf_12_56, rf_12_57, rf_12_58, rf_12_59, rf_12_60, Nat.reduceAdd, kc_419, kc_420, kc_421, kc_422, kc_423, kc_424, kc_425, kc_426, kc_427, kc_428, kc_429, kc_430, kc_431, kc_432, kc_433, kc_434, kc_435, kc_436, kc_437, kc_438, kc_439, kc_440, kc_441, kc_442, kc_443, kc_444, kc_445, kc_446, kc_447, kc_448, kc_449, kc_450, kc_451, kc_452, kc_453, kn_420, kn_421, kn_422, kn_423, kn_424, kn_425, kn_426, kn_427, kn_428, kn_429, kn_430, kn_431, kn_432, kn_433, kn_434, kn_435, kn_436, kn_437, kn_438, kn_439, kn_440, kn_441, kn_442, kn_443, kn_444, kn_445, kn_446, kn_447, kn_448, kn_449, kn_450, kn_451, kn_452, kn_453]
