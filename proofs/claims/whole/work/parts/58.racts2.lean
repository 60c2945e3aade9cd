/- needs: 57.racts -/
/-! the reference's acts: sets, clouds, undo, see, image, restore -/
section RB
variable {N : Nat} {s : sg} {P : pln} {n D mv k m nr w u v : Nat} {q : Nat → Int32} {b : Nat → Nat} {S S' : scn} {on : Bool}
theorem r_sets (hN2 : 2000 ≤ N) (Z : WS n D S) (h : RM s P nr q b S) (hw : w ≤ 1) : ∃ s', fX12_sets N 419 (nI w) (sk_i on) (mk s) = some (.inl (pSets S w on).1, mk s') ∧ s'.1 419 2 = 0 ∧ RM s' P nr q b (pSets S w on).2 ∧ Fr rM s s' := by
  obtain ⟨hm1, z1, fq⟩ := RM_0 h
  generalize hs1 : sI s 419 2 0 = s1 at hm1 z1 fq
  obtain ⟨s2, d1, d2, d3⟩ := r_keepS (N := N) hN2 hm1 Z.2.1
  have k5 : s2.1 435 (5 + w) = S.1 (5 + w) := d2.1.1.2.1 (5 + w) (by omega)
  have e5 : (5 : Int32) + nI w = nI (5 + w) := nI_add 5 w
  have i5 : inB (nI (5 + w)) 15 = true := inA_nI (by omega) (by omega)
  have f3 : Fr (fun y j => y = 435) s2 (sI s2 435 (5 + w) (sk_i on)) := Fr_sI rfl
  have h5 : ∀ j, j < 15 → (sI s2 435 (5 + w) (sk_i on)).1 435 j = sOn S.1 w on j := fun j hj => by
    rw [sI_1]
    unfold sOn
    by_cases e : j = 5 + w
    · rw [if_pos ⟨rfl, e⟩, if_pos e]
    · rw [if_neg (fun g => e g.2), if_neg e]; exact d2.1.1.2.1 j hj
  have key : ∀ y : Int32, y = 0 ∨ y = 1 → bX12_sets_42 N 419 (nI w) (sk_i on) y (mk s2) = some (.inl y, mk (sI s2 435 (5 + w) (sk_i on))) := fun y hy => by
    unfold bX12_sets_42 bX12_sets_59
    simp (decide := true) only [ob_s, cS_l, cS_r, gI_k, gR_k, pI_k, pR_k, cV_k, aI_k, tI_k, rZ_0, rZ_1, rZ_i, rf_12_0, rf_12_1, rf_12_3, rf_12_4, rf_12_5, rf_12_6, rf_12_7, rf_12_8, rf_12_9, rf_12_10, rf_12_11, rf_12_12, rf_12_13, rf_12_14, rf_12_15, rf_12_26, rf_12_27, rf_12_31, rf_12_32, rf_12_33, rf_12_34, rf_12_41, rf_12_44, rf_12_47, rf_12_48, rf_12_49, rf_12_51, rf_12_55, rf_12_56, rf_12_57, rf_12_58, rf_12_59, rf_12_60, Nat.reduceAdd, kc_419, kc_420, kc_421, kc_422, kc_423, kc_424, kc_425, kc_426, kc_427, kc_428, kc_429, kc_430, kc_431, kc_432, kc_433, kc_434, kc_435, kc_436, kc_437, kc_438, kc_439, kc_440, kc_441, kc_442, kc_443, kc_444, kc_445, kc_446, kc_447, kc_448, kc_449, kc_450, kc_451, kc_452, kc_453, kn_420, kn_421, kn_422, kn_423, kn_424, kn_425, kn_426, kn_427, kn_428, kn_429, kn_430, kn_431, kn_432, kn_433, kn_434, kn_435, kn_436, kn_437, kn_438, kn_439, kn_440, kn_441, kn_442, kn_443, kn_444, kn_445, kn_446, kn_447, kn_448, kn_449, kn_450, kn_451, kn_452, kn_453, e5, i5, nI_clamp (show 5 + w < 2 ^ 31 by omega), sk_0]
    cases on
    · rw [if_pos rfl]
      rcases hy with rfl | rfl <;> rfl
    · rw [if_neg (by decide)]
      rcases hy with rfl | rfl <;> rfl
  refine ⟨sI s2 435 (5 + w) (sk_i on), ?_, ?_, RM_g d2 f3 (fun y j g g2 => by unfold rP at g; omega) h5 (fun m hm => (f3.1 _ _ (by omega)).trans (d2.1.1.2.2 m hm)), Fr_t (Fr_t fq (Fr_m d3 (fun y j g => by unfold rM; omega))) (Fr_m f3 (fun y j g => by unfold rM rS; omega))⟩
  · unfold fX12_sets bX12_sets_0
    simp (decide := true) only [ob_s, cS_l, cS_r, gI_k, gR_k, pI_k, pR_k, cV_k, aI_k, tI_k, rZ_0, rZ_1, rZ_i, rf_12_0, rf_12_1, rf_12_3, rf_12_4, rf_12_5, rf_12_6, rf_12_7, rf_12_8, rf_12_9, rf_12_10, rf_12_11, rf_12_12, rf_12_13, rf_12_14, rf_12_15, rf_12_26, rf_12_27, rf_12_31, rf_12_32, rf_12_33, rf_12_34, rf_12_41, rf_12_44, rf_12_47, rf_12_48, rf_12_49, rf_12_51, rf_12_55, rf_12_56, rf_12_57, rf_12_58, rf_12_59, rf_12_60, Nat.reduceAdd, kc_419, kc_420, kc_421, kc_422, kc_423, kc_424, kc_425, kc_426, kc_427, kc_428, kc_429, kc_430, kc_431, kc_432, kc_433, kc_434, kc_435, kc_436, kc_437, kc_438, kc_439, kc_440, kc_441, kc_442, kc_443, kc_444, kc_445, kc_446, kc_447, kc_448, kc_449, kc_450, kc_451, kc_452, kc_453, kn_420, kn_421, kn_422, kn_423, kn_424, kn_425, kn_426, kn_427, kn_428, kn_429, kn_430, kn_431, kn_432, kn_433, kn_434, kn_435, kn_436, kn_437, kn_438, kn_439, kn_440, kn_441, kn_442, kn_443, kn_444, kn_445, kn_446, kn_447, kn_448, kn_449, kn_450, kn_451, kn_452, kn_453, hs1]
    rw [if_neg (nI_pos (by omega)), if_pos (show nI w ≤ (1 : Int32) from nI_le (b := 1) hw (by omega))]
    simp (decide := true) only [ob_s, cS_l, cS_r, gI_k, gR_k, pI_k, pR_k, cV_k, aI_k, tI_k, rZ_0, rZ_1, rZ_i, rf_12_0, rf_12_1, rf_12_3, rf_12_4, rf_12_5, rf_12_6, rf_12_7, rf_12_8, rf_12_9, rf_12_10, rf_12_11, rf_12_12, rf_12_13, rf_12_14, rf_12_15, rf_12_26, rf_12_27, rf_12_31, rf_12_32, rf_12_33, rf_12_34, rf_12_41, rf_12_44, rf_12_47, rf_12_48, rf_12_49, rf_12_51, rf_12_55, rf_12_56, rf_12_57, rf_12_58, rf_12_59, rf_12_60, Nat.reduceAdd, kc_419, kc_420, kc_421, kc_422, kc_423, kc_424, kc_425, kc_426, kc_427, kc_428, kc_429, kc_430, kc_431, kc_432, kc_433, kc_434, kc_435, kc_436, kc_437, kc_438, kc_439, kc_440, kc_441, kc_442, kc_443, kc_444, kc_445, kc_446, kc_447, kc_448, kc_449, kc_450, kc_451, kc_452, kc_453, kn_420, kn_421, kn_422, kn_423, kn_424, kn_425, kn_426, kn_427, kn_428, kn_429, kn_430, kn_431, kn_432, kn_433, kn_434, kn_435, kn_436, kn_437, kn_438, kn_439, kn_440, kn_441, kn_442, kn_443, kn_444, kn_445, kn_446, kn_447, kn_448, kn_449, kn_450, kn_451, kn_452, kn_453, d1, e5, i5, nI_clamp (show 5 + w < 2 ^ 31 by omega), k5]
    have hz : S.1 (5 + w) = 0 ∨ S.1 (5 + w) = 1 := by
      rcases (show w = 0 ∨ w = 1 by omega) with rfl | rfl
      · exact Z.1.2.2.2.1
      · exact Z.1.2.2.2.2
    unfold pSets
    rcases hz with g | g
    · rw [g, if_pos (by decide)]; exact key 0 (Or.inl rfl)
    · rw [g, if_neg (fun g => g rfl)]; exact key 1 (Or.inr rfl)
  · rw [f3.1 _ _ (by omega), d3.1 _ _ (by omega)]; exact z1
theorem r_sets' {x y : Int32} (hx : x < 0 ∨ (¬ x < 0 ∧ nI 2 ≤ x)) : fX12_sets N 419 x y (mk s) = some (.inl 0, mk (sI (sI s 419 2 0) 419 2 1)) := by
  unfold fX12_sets bX12_sets_0 bX12_sets_14
  simp (decide := true) only [ob_s, cS_l, cS_r, gI_k, gR_k, pI_k, pR_k, cV_k, aI_k, tI_k, rZ_0, rZ_1, rZ_i, rf_12_0, rf_12_1, rf_12_3, rf_12_4, rf_12_5, rf_12_6, rf_12_7, rf_12_8, rf_12_9, rf_12_10, rf_12_11, rf_12_12, rf_12_13, rf_12_14, rf_12_15, rf_12_26, rf_12_27, rf_12_31, rf_12_32, rf_12_33, rf_12_34, rf_12_41, rf_12_44, rf_12_47, rf_12_48, rf_12_49, rf_12_51, rf_12_55, rf_12_56, rf_12_57, rf_12_58, rf_12_59, rf_12_60, Nat.reduceAdd, kc_419, kc_420, kc_421, kc_422, kc_423, kc_424, kc_425, kc_426, kc_427, kc_428, kc_429, kc_430, kc_431, kc_432, kc_433, kc_434, kc_435, kc_436, kc_437, kc_438, kc_439, kc_440, kc_441, kc_442, kc_443, kc_444, kc_445, kc_446, kc_447, kc_448, kc_449, kc_450, kc_451, kc_452, kc_453, kn_420, kn_421, kn_422, kn_423, kn_424, kn_425, kn_426, kn_427, kn_428, kn_429, kn_430, kn_431, kn_432, kn_433, kn_434, kn_435, kn_436, kn_437, kn_438, kn_439, kn_440, kn_441, kn_442, kn_443, kn_444, kn_445, kn_446, kn_447, kn_448, kn_449, kn_450, kn_451, kn_452, kn_453]
  by_cases c : x < 0
  · rw [if_pos c]
  · rw [if_neg c]
    rcases hx with g | g
    · exact absurd g c
    · rw [if_neg (show ¬ x ≤ (1 : Int32) from fun q => by
        have := Int32.le_trans g.2 q
        exact absurd this (by decide))]
theorem r_cl48 {K : Nat → Bool} (hv : v < 480) : ∀ (f i c : Nat) (s : sg), v + 1 - i < f → u ≤ i → i ≤ v + 1 → mSky s (pnt K on u i) → ∃ s', lX12_clouds_48 N f 419 (nI v) (sk_i on) (nI c) (nI i) (mk s) = some (.inl (nI (c + dif K on (v + 1 - i) i)), mk s') ∧ mSky s' (pnt K on u (v + 1)) ∧ Fr (fun x _ => x = 429) s s' := by
  intro f
  induction f with
  | zero => intro i c s hf; omega
  | succ f ih =>
    intro i c s hf hu hi hK
    show ∃ s', bX12_clouds_48 N (lX12_clouds_48 N f) 419 (nI v) (sk_i on) (nI c) (nI i) (mk s) = _ ∧ _
    unfold bX12_clouds_48
    by_cases e : v < i
    · have ei : i = v + 1 := by omega
      rw [if_pos (nI_lt e (by omega)), ei, show v + 1 - (v + 1) = 0 by omega]
      unfold bX12_clouds_105
      rw [ei] at hK
      exact ⟨s, rfl, hK, Fr_r _ _⟩
    · rw [if_neg (show ¬ nI v < nI i from fun g => absurd (nI_le (show i ≤ v by omega) (by omega)) (Int32.not_le.mpr g))]
      obtain ⟨g, hg, hg2⟩ := sub1 (show i < v + 1 by omega)
      have ii : inB (nI i) 960 = true := inA_nI (by omega) (by omega)
      have ei : s.1 429 i = sk_i (K i) := by
        rw [hK i (by omega)]
        unfold pnt
        rw [if_neg (by omega)]
      simp (decide := true) only [ob_s, cS_l, cS_r, gI_k, gR_k, pI_k, pR_k, cV_k, aI_k, tI_k, rZ_0, rZ_1, rZ_i, rf_12_0, rf_12_1, rf_12_3, rf_12_4, rf_12_5, rf_12_6, rf_12_7, rf_12_8, rf_12_9, rf_12_10, rf_12_11, rf_12_12, rf_12_13, rf_12_14, rf_12_15, rf_12_26, rf_12_27, rf_12_31, rf_12_32, rf_12_33, rf_12_34, rf_12_41, rf_12_44, rf_12_47, rf_12_48, rf_12_49, rf_12_51, rf_12_55, rf_12_56, rf_12_57, rf_12_58, rf_12_59, rf_12_60, Nat.reduceAdd, kc_419, kc_420, kc_421, kc_422, kc_423, kc_424, kc_425, kc_426, kc_427, kc_428, kc_429, kc_430, kc_431, kc_432, kc_433, kc_434, kc_435, kc_436, kc_437, kc_438, kc_439, kc_440, kc_441, kc_442, kc_443, kc_444, kc_445, kc_446, kc_447, kc_448, kc_449, kc_450, kc_451, kc_452, kc_453, kn_420, kn_421, kn_422, kn_423, kn_424, kn_425, kn_426, kn_427, kn_428, kn_429, kn_430, kn_431, kn_432, kn_433, kn_434, kn_435, kn_436, kn_437, kn_438, kn_439, kn_440, kn_441, kn_442, kn_443, kn_444, kn_445, kn_446, kn_447, kn_448, kn_449, kn_450, kn_451, kn_452, kn_453, ii, nI_clamp (show i < 2 ^ 31 by omega), ei, sk_0]
      have f1 : Fr (fun x _ => x = 429) s (sI s 429 i (sk_i on)) := Fr_sI rfl
      obtain ⟨s', b1, b2, b3⟩ := ih (i + 1) (c + if K i = on then 0 else 1) (sI s 429 i (sk_i on)) (by omega) (by omega) (by omega) (fun m hm => by
        rw [sI_1]
        unfold pnt
        by_cases e2 : m = i
        · rw [if_pos ⟨rfl, e2⟩, if_pos (by omega)]
        · rw [if_neg (fun g => e2 g.2), hK m hm]
          unfold pnt
          by_cases e3 : u ≤ m ∧ m < i
          · rw [if_pos e3, if_pos (by omega)]
          · rw [if_neg e3, if_neg (by omega)])
      rw [hg2] at b1
      refine ⟨s', ?_, b2, Fr_t f1 b3⟩
      rw [hg, dif_s, ← Nat.add_assoc, ← b1]
      unfold bX12_clouds_72 bX12_clouds_80 bX12_clouds_98
      cases on <;> cases K i <;> simp (decide := true) only [ob_s, cS_l, cS_r, gI_k, gR_k, pI_k, pR_k, cV_k, aI_k, tI_k, rZ_0, rZ_1, rZ_i, rf_12_0, rf_12_1, rf_12_3, rf_12_4, rf_12_5, rf_12_6, rf_12_7, rf_12_8, rf_12_9, rf_12_10, rf_12_11, rf_12_12, rf_12_13, rf_12_14, rf_12_15, rf_12_26, rf_12_27, rf_12_31, rf_12_32, rf_12_33, rf_12_34, rf_12_41, rf_12_44, rf_12_47, rf_12_48, rf_12_49, rf_12_51, rf_12_55, rf_12_56, rf_12_57, rf_12_58, rf_12_59, rf_12_60, Nat.reduceAdd, kc_419, kc_420, kc_421, kc_422, kc_423, kc_424, kc_425, kc_426, kc_427, kc_428, kc_429, kc_430, kc_431, kc_432, kc_433, kc_434, kc_435, kc_436, kc_437, kc_438, kc_439, kc_440, kc_441, kc_442, kc_443, kc_444, kc_445, kc_446, kc_447, kc_448, kc_449, kc_450, kc_451, kc_452, kc_453, kn_420, kn_421, kn_422, kn_423, kn_424, kn_425, kn_426, kn_427, kn_428, kn_429, kn_430, kn_431, kn_432, kn_433, kn_434, kn_435, kn_436, kn_437, kn_438, kn_439, kn_440, kn_441, kn_442, kn_443, kn_444, kn_445, kn_446, kn_447, kn_448, kn_449, kn_450, kn_451, kn_452, kn_453, ii, nI_clamp (show i < 2 ^ 31 by omega), nI_1, if_true, if_false, sk_i, Nat.add_zero, Int32.add_zero]
theorem r_clouds (hN2 : 2000 ≤ N) (W : Wp P n D mv) (Z : WS n D S) (h : RM s P nr q b S) (hu : u ≤ v) (hv : v < D) : ∃ s', fX12_clouds N 419 (nI u) (nI v) (sk_i on) (mk s) = some (.inl (pClouds S u v on).1, mk s') ∧ s'.1 419 2 = 0 ∧ RM s' P nr q b (pClouds S u v on).2 ∧ Fr rM s s' := by
  have hD := W.2.2.2.1
  have hmn := r_isMin (N := N) W h.1.1 (show u < D by omega)
  obtain ⟨hm1, z1, fq⟩ := RM_0 h
  generalize hs1 : sI s 419 2 0 = s1 at hm1 z1 fq hmn
  have eD : s1.1 422 1 = nI D := (hm1.1.1.1 0 1 (by omega) (by omega)).trans W.2.2.2.2.1
  have eD1 : nI D - 1 = nI (D - 1) := nI_sub (b := 1) (by omega)
  have hi := m_isInab (N := N) (s := s1) (nI v) (nI u).toInt64 (nI (D - 1)).toInt64 (nI u) (nI (D - 1)) rfl rfl
  have hin : sb (nI u ≤ nI v ∧ nI v ≤ nI (D - 1)) = 1 := sb_pos ⟨nI_le hu (by omega), nI_le (by omega) (by omega)⟩
  rw [hin] at hi
  obtain ⟨s2, d1, d2, d3⟩ := r_keepS (N := N) hN2 hm1 Z.2.1
  obtain ⟨s3, g1, g2, g3⟩ := r_cl48 (N := N) (K := S.2.1) (u := u) (v := v) (on := on) (by omega) N u 0 s2 (by omega) (by omega) (by omega) (fun m hm => by
    have : pnt S.2.1 on u u m = S.2.1 m := by unfold pnt; rw [if_neg (by omega)]
    rw [this]; exact d2.1.1.2.2 m hm)
  rw [Nat.zero_add] at g1
  refine ⟨s3, ?_, ?_, RM_g d2 g3 (fun y j g g2 => by unfold rP at g; omega) (fun j hj => (g3.1 _ _ (by omega)).trans (d2.1.1.2.1 j hj)) g2, Fr_t (Fr_t fq (Fr_m d3 (fun y j g => by unfold rM; omega))) (Fr_m g3 (fun y j g => by unfold rM rS; omega))⟩
  · unfold fX12_clouds bX12_clouds_0
    simp (decide := true) only [ob_s, cS_l, cS_r, gI_k, gR_k, pI_k, pR_k, cV_k, aI_k, tI_k, rZ_0, rZ_1, rZ_i, rf_12_0, rf_12_1, rf_12_3, rf_12_4, rf_12_5, rf_12_6, rf_12_7, rf_12_8, rf_12_9, rf_12_10, rf_12_11, rf_12_12, rf_12_13, rf_12_14, rf_12_15, rf_12_26, rf_12_27, rf_12_31, rf_12_32, rf_12_33, rf_12_34, rf_12_41, rf_12_44, rf_12_47, rf_12_48, rf_12_49, rf_12_51, rf_12_55, rf_12_56, rf_12_57, rf_12_58, rf_12_59, rf_12_60, Nat.reduceAdd, kc_419, kc_420, kc_421, kc_422, kc_423, kc_424, kc_425, kc_426, kc_427, kc_428, kc_429, kc_430, kc_431, kc_432, kc_433, kc_434, kc_435, kc_436, kc_437, kc_438, kc_439, kc_440, kc_441, kc_442, kc_443, kc_444, kc_445, kc_446, kc_447, kc_448, kc_449, kc_450, kc_451, kc_452, kc_453, kn_420, kn_421, kn_422, kn_423, kn_424, kn_425, kn_426, kn_427, kn_428, kn_429, kn_430, kn_431, kn_432, kn_433, kn_434, kn_435, kn_436, kn_437, kn_438, kn_439, kn_440, kn_441, kn_442, kn_443, kn_444, kn_445, kn_446, kn_447, kn_448, kn_449, kn_450, kn_451, kn_452, kn_453, hs1, hmn, if_false, nc_1, eD, eD1, hi, if_true, d1]
    exact g1
  · rw [g3.1 _ _ (by omega), d3.1 _ _ (by omega)]; exact z1
theorem r_clouds' {x y z : Int32} (W : Wp P n D mv) (h : RM s P nr q b S) (hx : ¬ (0 ≤ x ∧ x ≤ nI D - 1) ∨ (∃ u, u < D ∧ x = nI u) ∧ ¬ (x ≤ y ∧ y ≤ nI D - 1)) : ∃ s', fX12_clouds N 419 x y z (mk s) = some (.inl (-1), mk s') ∧ s'.1 419 2 = 0 ∧ RM s' P nr q b (rfS S 1) ∧ Fr rM s s' := by
  obtain ⟨hm1, z1, fq⟩ := RM_0 h
  have hr : fX12_refuse N 419 1 (mk (sI s 419 2 0)) = some (.inl (-1), mk (sI (sI s 419 2 0) 433 1 ((sI s 419 2 0).1 433 1 + 1))) := m_refuse (w := 1) (by omega)
  obtain ⟨r1, r2, r3⟩ := r_rfS (w := 1) (by omega) hm1
  refine ⟨_, ?_, r2.trans z1, r1, Fr_t fq r3⟩
  have rf : bX12_clouds_32 N 419 (mk (sI s 419 2 0)) = some (.inl (-1), mk (sI (sI s 419 2 0) 433 1 ((sI s 419 2 0).1 433 1 + 1))) := by
    unfold bX12_clouds_32
    simp (decide := true) only [ob_s, cS_l, cS_r, gI_k, gR_k, pI_k, pR_k, cV_k, aI_k, tI_k, rZ_0, rZ_1, rZ_i, rf_12_0, rf_12_1, rf_12_3, rf_12_4, rf_12_5, rf_12_6, rf_12_7, rf_12_8, rf_12_9, rf_12_10, rf_12_11, rf_12_12, rf_12_13, rf_12_14, rf_12_15, rf_12_26, rf_12_27, rf_12_31, rf_12_32, rf_12_33, rf_12_34, rf_12_41, rf_12_44, rf_12_47, rf_12_48, rf_12_49, rf_12_51, rf_12_55, rf_12_56, rf_12_57, rf_12_58, rf_12_59, rf_12_60, Nat.reduceAdd, kc_419, kc_420, kc_421, kc_422, kc_423, kc_424, kc_425, kc_426, kc_427, kc_428, kc_429, kc_430, kc_431, kc_432, kc_433, kc_434, kc_435, kc_436, kc_437, kc_438, kc_439, kc_440, kc_441, kc_442, kc_443, kc_444, kc_445, kc_446, kc_447, kc_448, kc_449, kc_450, kc_451, kc_452, kc_453, kn_420, kn_421, kn_422, kn_423, kn_424, kn_425, kn_426, kn_427, kn_428, kn_429, kn_430, kn_431, kn_432, kn_433, kn_434, kn_435, kn_436, kn_437, kn_438, kn_439, kn_440, kn_441, kn_442, kn_443, kn_444, kn_445, kn_446, kn_447, kn_448, kn_449, kn_450, kn_451, kn_452, kn_453, hr]
  unfold fX12_clouds bX12_clouds_0
  rcases hx with hx | ⟨⟨u, hu, hxu⟩, hy⟩
  · simp (decide := true) only [ob_s, cS_l, cS_r, gI_k, gR_k, pI_k, pR_k, cV_k, aI_k, tI_k, rZ_0, rZ_1, rZ_i, rf_12_0, rf_12_1, rf_12_3, rf_12_4, rf_12_5, rf_12_6, rf_12_7, rf_12_8, rf_12_9, rf_12_10, rf_12_11, rf_12_12, rf_12_13, rf_12_14, rf_12_15, rf_12_26, rf_12_27, rf_12_31, rf_12_32, rf_12_33, rf_12_34, rf_12_41, rf_12_44, rf_12_47, rf_12_48, rf_12_49, rf_12_51, rf_12_55, rf_12_56, rf_12_57, rf_12_58, rf_12_59, rf_12_60, Nat.reduceAdd, kc_419, kc_420, kc_421, kc_422, kc_423, kc_424, kc_425, kc_426, kc_427, kc_428, kc_429, kc_430, kc_431, kc_432, kc_433, kc_434, kc_435, kc_436, kc_437, kc_438, kc_439, kc_440, kc_441, kc_442, kc_443, kc_444, kc_445, kc_446, kc_447, kc_448, kc_449, kc_450, kc_451, kc_452, kc_453, kn_420, kn_421, kn_422, kn_423, kn_424, kn_425, kn_426, kn_427, kn_428, kn_429, kn_430, kn_431, kn_432, kn_433, kn_434, kn_435, kn_436, kn_437, kn_438, kn_439, kn_440, kn_441, kn_442, kn_443, kn_444, kn_445, kn_446, kn_447, kn_448, kn_449, kn_450, kn_451, kn_452, kn_453, r_isMin' W h.1.1 hx, if_true]
    exact rf
  · have eD : (sI s 419 2 0).1 422 1 = nI D := (hm1.1.1.1 0 1 (by omega) (by omega)).trans W.2.2.2.2.1
    have hmn := r_isMin (N := N) W h.1.1 hu
    rw [← hxu] at hmn
    have hi := m_isInab (N := N) (s := sI s 419 2 0) y x.toInt64 (nI D - 1).toInt64 x (nI D - 1) rfl rfl
    rw [sb_neg hy] at hi
    simp (decide := true) only [ob_s, cS_l, cS_r, gI_k, gR_k, pI_k, pR_k, cV_k, aI_k, tI_k, rZ_0, rZ_1, rZ_i, rf_12_0, rf_12_1, rf_12_3, rf_12_4, rf_12_5, rf_12_6, rf_12_7, rf_12_8, rf_12_9, rf_12_10, rf_12_11, rf_12_12, rf_12_13, rf_12_14, rf_12_15, rf_12_26, rf_12_27, rf_12_31, rf_12_32, rf_12_33, rf_12_34, rf_12_41, rf_12_44, rf_12_47, rf_12_48, rf_12_49, rf_12_51, rf_12_55, rf_12_56, rf_12_57, rf_12_58, rf_12_59, rf_12_60, Nat.reduceAdd, kc_419, kc_420, kc_421, kc_422, kc_423, kc_424, kc_425, kc_426, kc_427, kc_428, kc_429, kc_430, kc_431, kc_432, kc_433, kc_434, kc_435, kc_436, kc_437, kc_438, kc_439, kc_440, kc_441, kc_442, kc_443, kc_444, kc_445, kc_446, kc_447, kc_448, kc_449, kc_450, kc_451, kc_452, kc_453, kn_420, kn_421, kn_422, kn_423, kn_424, kn_425, kn_426, kn_427, kn_428, kn_429, kn_430, kn_431, kn_432, kn_433, kn_434, kn_435, kn_436, kn_437, kn_438, kn_439, kn_440, kn_441, kn_442, kn_443, kn_444, kn_445, kn_446, kn_447, kn_448, kn_449, kn_450, kn_451, kn_452, kn_453, hmn, if_false, nc_1, eD, hi]
    exact rf
theorem r_undo (hN1 : 1000 ≤ N) (Z : WS n D S) (h : RM s P nr q b S) : ∃ s', fX12_undo N 419 (mk s) = some (.inl (pUndo S).1, mk s') ∧ s'.1 419 2 = 0 ∧ RM s' P nr q b (pUndo S).2 ∧ Fr rM s s' := by
  obtain ⟨hm1, z1, fq⟩ := RM_0 h
  generalize hs1 : sI s 419 2 0 = s1 at hm1 z1 fq
  have hna := Z.2.1
  unfold fX12_undo bX12_undo_0 pUndo
  by_cases e : S.2.2.1.1 = 0
  · rw [if_pos e]
    have e28 : s1.1 419 28 = 0 := by
      have := hm1.2.1.1
      rw [e] at this; exact this
    simp (decide := true) only [ob_s, cS_l, cS_r, gI_k, gR_k, pI_k, pR_k, cV_k, aI_k, tI_k, rZ_0, rZ_1, rZ_i, rf_12_0, rf_12_1, rf_12_3, rf_12_4, rf_12_5, rf_12_6, rf_12_7, rf_12_8, rf_12_9, rf_12_10, rf_12_11, rf_12_12, rf_12_13, rf_12_14, rf_12_15, rf_12_26, rf_12_27, rf_12_31, rf_12_32, rf_12_33, rf_12_34, rf_12_41, rf_12_44, rf_12_47, rf_12_48, rf_12_49, rf_12_51, rf_12_55, rf_12_56, rf_12_57, rf_12_58, rf_12_59, rf_12_60, Nat.reduceAdd, kc_419, kc_420, kc_421, kc_422, kc_423, kc_424, kc_425, kc_426, kc_427, kc_428, kc_429, kc_430, kc_431, kc_432, kc_433, kc_434, kc_435, kc_436, kc_437, kc_438, kc_439, kc_440, kc_441, kc_442, kc_443, kc_444, kc_445, kc_446, kc_447, kc_448, kc_449, kc_450, kc_451, kc_452, kc_453, kn_420, kn_421, kn_422, kn_423, kn_424, kn_425, kn_426, kn_427, kn_428, kn_429, kn_430, kn_431, kn_432, kn_433, kn_434, kn_435, kn_436, kn_437, kn_438, kn_439, kn_440, kn_441, kn_442, kn_443, kn_444, kn_445, kn_446, kn_447, kn_448, kn_449, kn_450, kn_451, kn_452, kn_453, hs1, e28, if_false]
    exact ⟨s1, rfl, z1, hm1, fq⟩
  · rw [if_neg e]
    obtain ⟨g, hg⟩ : ∃ g, S.2.2.1.1 = g + 1 := ⟨S.2.2.1.1 - 1, by omega⟩
    rw [show S.2.2.1.1 - 1 = g by omega]
    have e28 : s1.1 419 28 = nI (g + 1) := by
      have := hm1.2.1.1
      rw [hg] at this; exact this
    have f2 : Fr (fun y j => y = 419 ∧ j = 28) s1 (sI s1 419 28 (nI g)) := Fr_sI ⟨rfl, rfl⟩
    have hRw : Rw (sI s1 419 28 (nI g)) 436 (31 * g) (S.2.2.1.2.1 g) (S.2.2.1.2.2 g) := Rw_fr (hm1.2.1.2 g (by omega)) f2 (by intros; omega)
    have hun := m_unpack (N := N) (s := sI s1 419 28 (nI g)) (a := 436) (t := 31 * g) rfl (by rw [kn_436]; omega) (by omega) (by omega) (by omega) hN1
    obtain ⟨u1, u2⟩ := Rw_un hRw
    generalize hs3 : sA (sA (sI s1 419 28 (nI g)) 435 (fun j => if j < 15 then (sI s1 419 28 (nI g)).1 436 (31 * g + j) else (sI s1 419 28 (nI g)).1 435 j)) 429 (fun j => if j < 480 then sk_i (bt ((sI s1 419 28 (nI g)).1 436 (31 * g + 15 + j / 30)) (j % 30)) else (sI s1 419 28 (nI g)).1 429 j) = s3 at hun u1 u2
    have f3 : Fr (fun y j => y = 435 ∨ y = 429) (sI s1 419 28 (nI g)) s3 := by
      rw [← hs3]
      exact Fr_t (Fr_sA (fun j => Or.inl rfl)) (Fr_sA (fun j => Or.inr rfl))
    have f23 : Fr (fun y j => y = 435 ∨ y = 429 ∨ (y = 419 ∧ j = 28)) s1 s3 := Fr_t (Fr_m f2 (by intros; omega)) (Fr_m f3 (by intros; omega))
    have e28' : s3.1 419 28 = nI g := (f3.1 _ _ (by omega)).trans (sI_at _ _ _ _)
    have e31 : (31 : Int32) * nI g = nI (31 * g) := nI_mul 31 g
    refine ⟨s3, ?_, (f23.1 _ _ (by omega)).trans z1, ⟨RU2_g hm1.1 f23 (by intros; omega) u1 u2, ⟨e28', fun i hi => Rw_fr (hm1.2.1.2 i (by have hi' : i < g := hi; omega)) f23 (by intros; omega)⟩, SnR_fr hm1.2.2.1 f23 (by omega) (by intros; omega), fun j hj => (f23.1 _ _ (by omega)).trans (hm1.2.2.2 j hj)⟩, Fr_t fq (Fr_m f23 (fun y j g => by unfold rM rS; omega))⟩
    simp (decide := true) only [ob_s, cS_l, cS_r, gI_k, gR_k, pI_k, pR_k, cV_k, aI_k, tI_k, rZ_0, rZ_1, rZ_i, rf_12_0, rf_12_1, rf_12_3, rf_12_4, rf_12_5, rf_12_6, rf_12_7, rf_12_8, rf_12_9, rf_12_10, rf_12_11, rf_12_12, rf_12_13, rf_12_14, rf_12_15, rf_12_26, rf_12_27, rf_12_31, rf_12_32, rf_12_33, rf_12_34, rf_12_41, rf_12_44, rf_12_47, rf_12_48, rf_12_49, rf_12_51, rf_12_55, rf_12_56, rf_12_57, rf_12_58, rf_12_59, rf_12_60, Nat.reduceAdd, kc_419, kc_420, kc_421, kc_422, kc_423, kc_424, kc_425, kc_426, kc_427, kc_428, kc_429, kc_430, kc_431, kc_432, kc_433, kc_434, kc_435, kc_436, kc_437, kc_438, kc_439, kc_440, kc_441, kc_442, kc_443, kc_444, kc_445, kc_446, kc_447, kc_448, kc_449, kc_450, kc_451, kc_452, kc_453, kn_420, kn_421, kn_422, kn_423, kn_424, kn_425, kn_426, kn_427, kn_428, kn_429, kn_430, kn_431, kn_432, kn_433, kn_434, kn_435, kn_436, kn_437, kn_438, kn_439, kn_440, kn_441, kn_442, kn_443, kn_444, kn_445, kn_446, kn_447, kn_448, kn_449, kn_450, kn_451, kn_452, kn_453, hs1, e28]
    rw [if_pos (nI_ne0 (by omega) (by omega)), nI_pred]
    simp (decide := true) only [ob_s, cS_l, cS_r, gI_k, gR_k, pI_k, pR_k, cV_k, aI_k, tI_k, rZ_0, rZ_1, rZ_i, rf_12_0, rf_12_1, rf_12_3, rf_12_4, rf_12_5, rf_12_6, rf_12_7, rf_12_8, rf_12_9, rf_12_10, rf_12_11, rf_12_12, rf_12_13, rf_12_14, rf_12_15, rf_12_26, rf_12_27, rf_12_31, rf_12_32, rf_12_33, rf_12_34, rf_12_41, rf_12_44, rf_12_47, rf_12_48, rf_12_49, rf_12_51, rf_12_55, rf_12_56, rf_12_57, rf_12_58, rf_12_59, rf_12_60, Nat.reduceAdd, kc_419, kc_420, kc_421, kc_422, kc_423, kc_424, kc_425, kc_426, kc_427, kc_428, kc_429, kc_430, kc_431, kc_432, kc_433, kc_434, kc_435, kc_436, kc_437, kc_438, kc_439, kc_440, kc_441, kc_442, kc_443, kc_444, kc_445, kc_446, kc_447, kc_448, kc_449, kc_450, kc_451, kc_452, kc_453, kn_420, kn_421, kn_422, kn_423, kn_424, kn_425, kn_426, kn_427, kn_428, kn_429, kn_430, kn_431, kn_432, kn_433, kn_434, kn_435, kn_436, kn_437, kn_438, kn_439, kn_440, kn_441, kn_442, kn_443, kn_444, kn_445, kn_446, kn_447, kn_448, kn_449, kn_450, kn_451, kn_452, kn_453, sI_at, e31, hun, e28']
theorem r_see {x : Int32} (W : Wp P n D mv) (Z : WS n D S) (h : RM s P nr q b S) (hk : k < n) : ∃ s', fX12_see N 419 (nI k) x (sk_i on) (mk s) = some (.inl (pSee S k x on).1, mk s') ∧ s'.1 419 2 = 0 ∧ RM s' P nr q b (pSee S k x on).2 ∧ Fr rM s s' := by
  have hn8 := W.1
  have hns := Z.2.2.2.1
  have hsh := r_isShot (N := N) W h.1.1 hk
  obtain ⟨hm1, z1, fq⟩ := RM_0 h
  generalize hs1 : sI s 419 2 0 = s1 at hm1 z1 fq hsh
  have hr : fX12_refuse N 419 2 (mk s1) = some (.inl (-1), mk (sI s1 433 2 (s1.1 433 2 + 1))) := m_refuse (w := 2) (by omega)
  obtain ⟨r1, r2, r3⟩ := r_rfS (w := 2) (by omega) hm1
  have rf : bX12_see_40 N 419 (mk s1) = some (.inl (-1), mk (sI s1 433 2 (s1.1 433 2 + 1))) := by
    unfold bX12_see_40
    simp (decide := true) only [ob_s, cS_l, cS_r, gI_k, gR_k, pI_k, pR_k, cV_k, aI_k, tI_k, rZ_0, rZ_1, rZ_i, rf_12_0, rf_12_1, rf_12_3, rf_12_4, rf_12_5, rf_12_6, rf_12_7, rf_12_8, rf_12_9, rf_12_10, rf_12_11, rf_12_12, rf_12_13, rf_12_14, rf_12_15, rf_12_26, rf_12_27, rf_12_31, rf_12_32, rf_12_33, rf_12_34, rf_12_41, rf_12_44, rf_12_47, rf_12_48, rf_12_49, rf_12_51, rf_12_55, rf_12_56, rf_12_57, rf_12_58, rf_12_59, rf_12_60, Nat.reduceAdd, kc_419, kc_420, kc_421, kc_422, kc_423, kc_424, kc_425, kc_426, kc_427, kc_428, kc_429, kc_430, kc_431, kc_432, kc_433, kc_434, kc_435, kc_436, kc_437, kc_438, kc_439, kc_440, kc_441, kc_442, kc_443, kc_444, kc_445, kc_446, kc_447, kc_448, kc_449, kc_450, kc_451, kc_452, kc_453, kn_420, kn_421, kn_422, kn_423, kn_424, kn_425, kn_426, kn_427, kn_428, kn_429, kn_430, kn_431, kn_432, kn_433, kn_434, kn_435, kn_436, kn_437, kn_438, kn_439, kn_440, kn_441, kn_442, kn_443, kn_444, kn_445, kn_446, kn_447, kn_448, kn_449, kn_450, kn_451, kn_452, kn_453, hr]
  have e29 : s1.1 419 29 = nI S.2.2.2.1.1 := hm1.2.2.1.1
  have hi := m_isIn0 N s1 x 479 479 rfl
  unfold fX12_see bX12_see_0 pSee
  simp (decide := true) only [ob_s, cS_l, cS_r, gI_k, gR_k, pI_k, pR_k, cV_k, aI_k, tI_k, rZ_0, rZ_1, rZ_i, rf_12_0, rf_12_1, rf_12_3, rf_12_4, rf_12_5, rf_12_6, rf_12_7, rf_12_8, rf_12_9, rf_12_10, rf_12_11, rf_12_12, rf_12_13, rf_12_14, rf_12_15, rf_12_26, rf_12_27, rf_12_31, rf_12_32, rf_12_33, rf_12_34, rf_12_41, rf_12_44, rf_12_47, rf_12_48, rf_12_49, rf_12_51, rf_12_55, rf_12_56, rf_12_57, rf_12_58, rf_12_59, rf_12_60, Nat.reduceAdd, kc_419, kc_420, kc_421, kc_422, kc_423, kc_424, kc_425, kc_426, kc_427, kc_428, kc_429, kc_430, kc_431, kc_432, kc_433, kc_434, kc_435, kc_436, kc_437, kc_438, kc_439, kc_440, kc_441, kc_442, kc_443, kc_444, kc_445, kc_446, kc_447, kc_448, kc_449, kc_450, kc_451, kc_452, kc_453, kn_420, kn_421, kn_422, kn_423, kn_424, kn_425, kn_426, kn_427, kn_428, kn_429, kn_430, kn_431, kn_432, kn_433, kn_434, kn_435, kn_436, kn_437, kn_438, kn_439, kn_440, kn_441, kn_442, kn_443, kn_444, kn_445, kn_446, kn_447, kn_448, kn_449, kn_450, kn_451, kn_452, kn_453, hs1, hsh, if_true, e29, hi, rf]
  by_cases c3 : S.2.2.2.1.1 < 8
  · rw [if_neg (show ¬ nI S.2.2.2.1.1 = (8 : Int32) from fun g => by
      have := (nI_inj (a := S.2.2.2.1.1) (b := 8) (by omega) (by omega)).mp g
      omega)]
    rcases rng x 480 (by omega) with ⟨m, hm, hxm, g1, g2, g3⟩ | ⟨g1, g2, g3⟩
    · have g3' : 0 ≤ x ∧ x ≤ nI 479 := g3
      rw [sb_pos g3', if_pos (by decide), if_pos (show ¬ x < 0 ∧ ¬ (480 : Int32) ≤ x ∧ S.2.2.2.1.1 < 8 from ⟨g1, g2, c3⟩)]
      have i8 : inB (nI S.2.2.2.1.1) 8 = true := inA_nI (by omega) (by omega)
      generalize hns0 : S.2.2.2.1.1 = ns at *
      generalize hs2 : sI (sI (sI (sI s1 443 ns (nI k)) 444 ns x) 445 ns (sk_i on)) 419 29 (nI (ns + 1)) = s2
      have f1 : Fr (fun y j => 443 ≤ y ∧ y ≤ 445 ∨ y = 419 ∧ j = 29) s1 s2 := by
        rw [← hs2]
        exact Fr_t (Fr_t (Fr_t (Fr_sI (by omega)) (Fr_sI (by omega))) (Fr_sI (by omega))) (Fr_sI (by omega))
      have e7 : s2.1 419 29 = nI (ns + 1) := by rw [← hs2, sI_at]
      refine ⟨s2, ?_, (f1.1 _ _ (by omega)).trans z1, ⟨RU2_g hm1.1 f1 (by intros; omega) (fun j hj => (f1.1 _ _ (by omega)).trans (hm1.1.1.2.1 j hj)) (fun m hm => (f1.1 _ _ (by omega)).trans (hm1.1.1.2.2 m hm)), HsR_fr hm1.2.1 f1 (by omega) (by intros; omega), ⟨e7, fun i hi => ?_⟩, fun j hj => (f1.1 _ _ (by omega)).trans (hm1.2.2.2 j hj)⟩, Fr_t fq (Fr_m f1 (fun y j g => by unfold rM; omega))⟩
      · simp (decide := true) only [ob_s, cS_l, cS_r, gI_k, gR_k, pI_k, pR_k, cV_k, aI_k, tI_k, rZ_0, rZ_1, rZ_i, rf_12_0, rf_12_1, rf_12_3, rf_12_4, rf_12_5, rf_12_6, rf_12_7, rf_12_8, rf_12_9, rf_12_10, rf_12_11, rf_12_12, rf_12_13, rf_12_14, rf_12_15, rf_12_26, rf_12_27, rf_12_31, rf_12_32, rf_12_33, rf_12_34, rf_12_41, rf_12_44, rf_12_47, rf_12_48, rf_12_49, rf_12_51, rf_12_55, rf_12_56, rf_12_57, rf_12_58, rf_12_59, rf_12_60, Nat.reduceAdd, kc_419, kc_420, kc_421, kc_422, kc_423, kc_424, kc_425, kc_426, kc_427, kc_428, kc_429, kc_430, kc_431, kc_432, kc_433, kc_434, kc_435, kc_436, kc_437, kc_438, kc_439, kc_440, kc_441, kc_442, kc_443, kc_444, kc_445, kc_446, kc_447, kc_448, kc_449, kc_450, kc_451, kc_452, kc_453, kn_420, kn_421, kn_422, kn_423, kn_424, kn_425, kn_426, kn_427, kn_428, kn_429, kn_430, kn_431, kn_432, kn_433, kn_434, kn_435, kn_436, kn_437, kn_438, kn_439, kn_440, kn_441, kn_442, kn_443, kn_444, kn_445, kn_446, kn_447, kn_448, kn_449, kn_450, kn_451, kn_452, kn_453, e29, i8, sI_c, Nat.reduceEqDiff, false_and, if_false, nI_clamp (show ns < 2 ^ 31 by omega), sk_0]
        unfold bX12_see_83
        have e29' : ∀ y z, (sI (sI (sI s1 443 ns (nI k)) 444 ns y) 445 ns z).1 419 29 = nI ns := fun y z => by
          rw [sI_1, if_neg (by omega), sI_1, if_neg (by omega), sI_1, if_neg (by omega)]; exact e29
        cases on
        · rw [if_pos rfl]
          have hs2' : sI (sI (sI (sI s1 443 ns (nI k)) 444 ns x) 445 ns 0) 419 29 (nI (ns + 1)) = s2 := hs2
          simp (decide := true) only [ob_s, cS_l, cS_r, gI_k, gR_k, pI_k, pR_k, cV_k, aI_k, tI_k, rZ_0, rZ_1, rZ_i, rf_12_0, rf_12_1, rf_12_3, rf_12_4, rf_12_5, rf_12_6, rf_12_7, rf_12_8, rf_12_9, rf_12_10, rf_12_11, rf_12_12, rf_12_13, rf_12_14, rf_12_15, rf_12_26, rf_12_27, rf_12_31, rf_12_32, rf_12_33, rf_12_34, rf_12_41, rf_12_44, rf_12_47, rf_12_48, rf_12_49, rf_12_51, rf_12_55, rf_12_56, rf_12_57, rf_12_58, rf_12_59, rf_12_60, Nat.reduceAdd, kc_419, kc_420, kc_421, kc_422, kc_423, kc_424, kc_425, kc_426, kc_427, kc_428, kc_429, kc_430, kc_431, kc_432, kc_433, kc_434, kc_435, kc_436, kc_437, kc_438, kc_439, kc_440, kc_441, kc_442, kc_443, kc_444, kc_445, kc_446, kc_447, kc_448, kc_449, kc_450, kc_451, kc_452, kc_453, kn_420, kn_421, kn_422, kn_423, kn_424, kn_425, kn_426, kn_427, kn_428, kn_429, kn_430, kn_431, kn_432, kn_433, kn_434, kn_435, kn_436, kn_437, kn_438, kn_439, kn_440, kn_441, kn_442, kn_443, kn_444, kn_445, kn_446, kn_447, kn_448, kn_449, kn_450, kn_451, kn_452, kn_453, i8, nI_clamp (show ns < 2 ^ 31 by omega), e29', nI_1, hs2', e7]
        · rw [if_neg (by decide)]
          have hs2' : sI (sI (sI (sI s1 443 ns (nI k)) 444 ns x) 445 ns 1) 419 29 (nI (ns + 1)) = s2 := hs2
          simp (decide := true) only [ob_s, cS_l, cS_r, gI_k, gR_k, pI_k, pR_k, cV_k, aI_k, tI_k, rZ_0, rZ_1, rZ_i, rf_12_0, rf_12_1, rf_12_3, rf_12_4, rf_12_5, rf_12_6, rf_12_7, rf_12_8, rf_12_9, rf_12_10, rf_12_11, rf_12_12, rf_12_13, rf_12_14, rf_12_15, rf_12_26, rf_12_27, rf_12_31, rf_12_32, rf_12_33, rf_12_34, rf_12_41, rf_12_44, rf_12_47, rf_12_48, rf_12_49, rf_12_51, rf_12_55, rf_12_56, rf_12_57, rf_12_58, rf_12_59, rf_12_60, Nat.reduceAdd, kc_419, kc_420, kc_421, kc_422, kc_423, kc_424, kc_425, kc_426, kc_427, kc_428, kc_429, kc_430, kc_431, kc_432, kc_433, kc_434, kc_435, kc_436, kc_437, kc_438, kc_439, kc_440, kc_441, kc_442, kc_443, kc_444, kc_445, kc_446, kc_447, kc_448, kc_449, kc_450, kc_451, kc_452, kc_453, kn_420, kn_421, kn_422, kn_423, kn_424, kn_425, kn_426, kn_427, kn_428, kn_429, kn_430, kn_431, kn_432, kn_433, kn_434, kn_435, kn_436, kn_437, kn_438, kn_439, kn_440, kn_441, kn_442, kn_443, kn_444, kn_445, kn_446, kn_447, kn_448, kn_449, kn_450, kn_451, kn_452, kn_453, i8, nI_clamp (show ns < 2 ^ 31 by omega), e29', nI_1, hs2', e7]
      · show s2.1 443 i = nI (if i = ns then k else S.2.2.2.1.2.1 i) ∧ s2.1 444 i = nI (if i = ns then x.toNatClampNeg else S.2.2.2.1.2.2.1 i) ∧ s2.1 445 i = sk_i (if i = ns then on else S.2.2.2.1.2.2.2 i)
        have hi' : i < ns + 1 := hi
        rw [← hs2]
        by_cases e : i = ns
        · subst e
          rw [if_pos rfl, if_pos rfl, if_pos rfl]
          refine ⟨?_, ?_, ?_⟩
          · rw [sI_1, if_neg (by omega), sI_1, if_neg (by omega), sI_1, if_neg (by omega), sI_at]
          · rw [sI_1, if_neg (by omega), sI_1, if_neg (by omega), sI_at, hxm, nI_clamp (by omega)]
          · rw [sI_1, if_neg (by omega), sI_at]
        · rw [if_neg e, if_neg e, if_neg e]
          obtain ⟨g1, g2, g3⟩ := hm1.2.2.1.2 i (by omega)
          refine ⟨?_, ?_, ?_⟩
          · rw [sI_1, if_neg (by omega), sI_1, if_neg (by omega), sI_1, if_neg (by omega), sI_1, if_neg (by omega)]; exact g1
          · rw [sI_1, if_neg (by omega), sI_1, if_neg (by omega), sI_1, if_neg (by omega), sI_1, if_neg (by omega)]; exact g2
          · rw [sI_1, if_neg (by omega), sI_1, if_neg (by omega), sI_1, if_neg (by omega), sI_1, if_neg (by omega)]; exact g3
    · have g2' : ¬ (0 ≤ x ∧ x ≤ nI 479) := g2
      rw [sb_neg g2', if_neg (by decide), if_neg (fun c => g1.elim (fun a => c.1 a) (fun a => c.2.1 a.2))]
      exact ⟨_, rfl, r2.trans z1, r1, Fr_t fq r3⟩
  · rw [if_pos (show nI S.2.2.2.1.1 = (8 : Int32) by rw [show S.2.2.2.1.1 = 8 by omega]; rfl), if_neg (fun g => c3 g.2.2)]
    exact ⟨_, rfl, r2.trans z1, r1, Fr_t fq r3⟩
theorem r_see' {x y z : Int32} (W : Wp P n D mv) (h : RM s P nr q b S) (hx : ¬ (0 ≤ x ∧ x ≤ nI n - 1)) : fX12_see N 419 x y z (mk s) = some (.inl 0, mk (sI (sI s 419 2 0) 419 2 1)) := by
  unfold fX12_see bX12_see_0
  simp (decide := true) only [ob_s, cS_l, cS_r, gI_k, gR_k, pI_k, pR_k, cV_k, aI_k, tI_k, rZ_0, rZ_1, rZ_i, rf_12_0, rf_12_1, rf_12_3, rf_12_4, rf_12_5, rf_12_6, rf_12_7, rf_12_8, rf_12_9, rf_12_10, rf_12_11, rf_12_12, rf_12_13, rf_12_14, rf_12_15, rf_12_26, rf_12_27, rf_12_31, rf_12_32, rf_12_33, rf_12_34, rf_12_41, rf_12_44, rf_12_47, rf_12_48, rf_12_49, rf_12_51, rf_12_55, rf_12_56, rf_12_57, rf_12_58, rf_12_59, rf_12_60, Nat.reduceAdd, kc_419, kc_420, kc_421, kc_422, kc_423, kc_424, kc_425, kc_426, kc_427, kc_428, kc_429, kc_430, kc_431, kc_432, kc_433, kc_434, kc_435, kc_436, kc_437, kc_438, kc_439, kc_440, kc_441, kc_442, kc_443, kc_444, kc_445, kc_446, kc_447, kc_448, kc_449, kc_450, kc_451, kc_452, kc_453, kn_420, kn_421, kn_422, kn_423, kn_424, kn_425, kn_426, kn_427, kn_428, kn_429, kn_430, kn_431, kn_432, kn_433, kn_434, kn_435, kn_436, kn_437, kn_438, kn_439, kn_440, kn_441, kn_442, kn_443, kn_444, kn_445, kn_446, kn_447, kn_448, kn_449, kn_450, kn_451, kn_452, kn_453, r_isShot' W h.1.1 hx, r_bad1, if_false]
theorem WS_see {x : Int32} (Z : WS n D S) (hk : k < n) : WS n D (pSee S k x on).2 := by
  unfold pSee
  by_cases c : ¬ x < 0 ∧ ¬ (480 : Int32) ≤ x ∧ S.2.2.2.1.1 < 8
  · rw [if_pos c]
    obtain ⟨m, hm, hxm⟩ : ∃ m, m < 480 ∧ x = nI m := by
      rcases rng x 480 (by omega) with ⟨m, g1, g2, _⟩ | ⟨g | g, _⟩
      · exact ⟨m, g1, g2⟩
      · exact absurd g c.1
      · exact absurd g.2 c.2.1
    refine ⟨Z.1, Z.2.1, Z.2.2.1, (by show S.2.2.2.1.1 + 1 ≤ 8; omega), fun i hi => ?_⟩
    show (if i = S.2.2.2.1.1 then k else S.2.2.2.1.2.1 i) < n ∧ (if i = S.2.2.2.1.1 then x.toNatClampNeg else S.2.2.2.1.2.2.1 i) < 480
    have hi' : i < S.2.2.2.1.1 + 1 := hi
    by_cases e : i = S.2.2.2.1.1
    · rw [if_pos e, if_pos e, hxm, nI_clamp (by omega)]; exact ⟨hk, hm⟩
    · rw [if_neg e, if_neg e]; exact Z.2.2.2.2 i (by omega)
  · rw [if_neg c]; exact Z
end RB
