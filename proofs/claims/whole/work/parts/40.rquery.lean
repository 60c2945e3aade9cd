/- needs: 39.cquery2 -/
/-! the reference's questions: the order, a set, going inside, worth, without, a shorter day -/
section RQ
variable {N : Nat} {s : sg} {P : pln} {st : Nat → Int32} {K : Nat → Bool} {E n D mv k m w : Nat}
theorem r_order0 (hN1 : 1000 ≤ N) (W : Wp P n D mv) (Z : Ws st n D) (h : RU s P st K) : ∃ s', RV s' P st K D ∧ s'.1 419 42 = nI (anN (2 ^ n - 1) (hN st)) ∧ s'.1 419 43 = nI 0 ∧ s'.1 419 2 = 0 ∧ Trow s' n (TT P st K D n mv (2 ^ n - 1)) ∧ Fr rQ s s' ∧ ∀ x, fX12_order N 419 x (mk s) = (if ¬ sb (0 ≤ x ∧ x ≤ nI (pcf (MS n (TT P st K D n mv (2 ^ n - 1)))) - 1) = 0 then (cS (fX12_endsBy N 12 419 (nI (MS n (TT P st K D n mv (2 ^ n - 1)))) (nI 0) (nI (nowN st)) (nI (inN st)) (nI (sn (TT P st K D n mv (2 ^ n - 1)) (MS n (TT P st K D n mv (2 ^ n - 1))))) (nI 0) (mk s')) fun r18 c19 => Option.bind (gR c19 419 12 44) fun x20 => Option.bind (aI c19 x20 x) fun x21 => some (.inl x21, c19)) else some (.inl 0, mk (sI s' 419 2 1))) := by
  have hp8 := pn8 W.1
  obtain ⟨b1, b2, b3⟩ := r_begin h W
  have hD := W.2.2.2.1
  have hpos := Nat.two_pow_pos n
  obtain ⟨⟨h0, hnow⟩, ⟨h1, h1'⟩, _⟩ := Ws_n Z W.1 W.2.2.2.1
  obtain ⟨s', a1, a2, a3, a4, a5, a6, a7⟩ := r_tellNow (N := N) (w := 2 ^ n - 1) hN1 W Z b1 hD (by omega)
  refine ⟨s', a3, a4, a5, a6.trans b2, a2, Fr_t b3 a7, fun x => ?_⟩
  have hM := MS_lt n (TT P st K D n mv (2 ^ n - 1))
  have e0 : s'.1 435 0 = nI (nowN st) := (a3.2.1 0 (by omega)).trans h0
  have e1 : s'.1 435 1 = nI (inN st) := (a3.2.1 1 (by omega)).trans h1
  have hin : fX12_isIn N x.toInt64 0 ((nI (pcf (MS n (TT P st K D n mv (2 ^ n - 1)))) - 1).toInt64) (mk s') = some (.inl (sb (0 ≤ x ∧ x ≤ nI (pcf (MS n (TT P st K D n mv (2 ^ n - 1)))) - 1)), mk s') := by
    rw [m_isIn]
    have h0 : (0 : Int64) = (0 : Int32).toInt64 := by decide
    simp only [h0, i64_le]
  unfold fX12_order bX12_order_0
  simp (decide := true) only [ob_s, cS_l, cS_r, gI_k, gR_k, pI_k, pR_k, cV_k, aI_k, tI_k, rZ_0, rZ_1, rZ_i, rf_12_0, rf_12_1, rf_12_3, rf_12_4, rf_12_5, rf_12_6, rf_12_7, rf_12_8, rf_12_9, rf_12_10, rf_12_11, rf_12_12, rf_12_13, rf_12_14, rf_12_15, rf_12_26, rf_12_27, rf_12_31, rf_12_32, rf_12_33, rf_12_34, rf_12_41, rf_12_44, rf_12_47, rf_12_48, rf_12_49, rf_12_51, rf_12_55, rf_12_56, rf_12_57, rf_12_58, rf_12_59, rf_12_60, Nat.reduceAdd, kc_419, kc_420, kc_421, kc_422, kc_423, kc_424, kc_425, kc_426, kc_427, kc_428, kc_429, kc_430, kc_431, kc_432, kc_433, kc_434, kc_435, kc_436, kc_437, kc_438, kc_439, kc_440, kc_441, kc_442, kc_443, kc_444, kc_445, kc_446, kc_447, kc_448, kc_449, kc_450, kc_451, kc_452, kc_453, kn_420, kn_421, kn_422, kn_423, kn_424, kn_425, kn_426, kn_427, kn_428, kn_429, kn_430, kn_431, kn_432, kn_433, kn_434, kn_435, kn_436, kn_437, kn_438, kn_439, kn_440, kn_441, kn_442, kn_443, kn_444, kn_445, kn_446, kn_447, kn_448, kn_449, kn_450, kn_451, kn_452, kn_453, m_set]
  simp (decide := true) only [sI_c, Nat.reduceEqDiff, false_and, if_false]
  simp (decide := true) only [ob_s, cS_l, cS_r, gI_k, gR_k, pI_k, pR_k, cV_k, aI_k, tI_k, rZ_0, rZ_1, rZ_i, rf_12_0, rf_12_1, rf_12_3, rf_12_4, rf_12_5, rf_12_6, rf_12_7, rf_12_8, rf_12_9, rf_12_10, rf_12_11, rf_12_12, rf_12_13, rf_12_14, rf_12_15, rf_12_26, rf_12_27, rf_12_31, rf_12_32, rf_12_33, rf_12_34, rf_12_41, rf_12_44, rf_12_47, rf_12_48, rf_12_49, rf_12_51, rf_12_55, rf_12_56, rf_12_57, rf_12_58, rf_12_59, rf_12_60, Nat.reduceAdd, kc_419, kc_420, kc_421, kc_422, kc_423, kc_424, kc_425, kc_426, kc_427, kc_428, kc_429, kc_430, kc_431, kc_432, kc_433, kc_434, kc_435, kc_436, kc_437, kc_438, kc_439, kc_440, kc_441, kc_442, kc_443, kc_444, kc_445, kc_446, kc_447, kc_448, kc_449, kc_450, kc_451, kc_452, kc_453, kn_420, kn_421, kn_422, kn_423, kn_424, kn_425, kn_426, kn_427, kn_428, kn_429, kn_430, kn_431, kn_432, kn_433, kn_434, kn_435, kn_436, kn_437, kn_438, kn_439, kn_440, kn_441, kn_442, kn_443, kn_444, kn_445, kn_446, kn_447, kn_448, kn_449, kn_450, kn_451, kn_452, kn_453, r_all W (RV_U b1), a1, r_mostSet hN1 W (RV_U a3) a2 (TT_le W hD Z hnow _), m_bits hN1 (show MS n (TT P st K D n mv (2 ^ n - 1)) < 256 by omega), hin, nc_0, nc_1, e0, e1, r_soonOf W.1 a2 (TT_le W hD Z hnow _) hM, m_fail]
  rfl
theorem r_order (hN1 : 1000 ≤ N) (W : Wp P n D mv) (Z : Ws st n D) (h : RU s P st K) (hw : w < (aOrd P st K n D mv).length) : ∃ s', fX12_order N 419 (nI w) (mk s) = some (.inl (nI ((aOrd P st K n D mv).getD w 0)), mk s') ∧ s'.1 419 2 = 0 ∧ Fr rQ s s' := by
  have hn8 := W.1
  have hp8 := pn8 W.1
  have hD := W.2.2.2.1
  obtain ⟨⟨h0, hnow⟩, ⟨h1, h1'⟩, ⟨h2, h2'⟩⟩ := Ws_n Z W.1 W.2.2.2.1
  obtain ⟨l, hl, hlen⟩ := MS_path (K := K) W Z hD rfl
  have hao : aOrd P st K n D mv = l := by unfold aOrd; rw [hl]; rfl
  obtain ⟨s1, a1, a2, a3, a4, a5, a6, a7⟩ := r_order0 (N := N) hN1 W Z h
  rw [hao] at hw ⊢
  have htab := TT_tab (K := K) W hD Z hnow (2 ^ n - 1)
  have hS := MS_lt n (TT P st K D n mv (2 ^ n - 1))
  have hs0 : sn (TT P st K D n mv (2 ^ n - 1)) 0 < 100000 := by rw [TT_0 W hD Z hnow]; omega
  have hsn : sn (TT P st K D n mv (2 ^ n - 1)) (MS n (TT P st K D n mv (2 ^ n - 1))) < 100000 := MS_sn hs0 _ _ _ hs0
  have hC := TT_cls (K := K) W Z hD hnow (show MS n (TT P st K D n mv (2 ^ n - 1)) < 256 by omega) hsn
  have hpc := pcf_8 (MS n (TT P st K D n mv (2 ^ n - 1)))
  have hle : sn (TT P st K D n mv (2 ^ n - 1)) (MS n (TT P st K D n mv (2 ^ n - 1))) ≤ D := by
    have t0 := htab.2.2.2.2 (2 * MS n (TT P st K D n mv (2 ^ n - 1)))
    have t1 := htab.2.2.2.2 (2 * MS n (TT P st K D n mv (2 ^ n - 1)) + 1)
    unfold sn at hsn ⊢
    omega
  have hSH : ∀ j, j < 8 → (MS n (TT P st K D n mv (2 ^ n - 1))).testBit j = true → (hN st ||| 0).testBit j = false := fun j hj g => by
    have := (hC j hj g).1
    rw [anN_tb (by omega)] at this
    simp only [Bool.and_eq_true, Bool.not_eq_true'] at this
    rw [Nat.or_zero]
    exact this.2
  have hTn : TT P st K D n mv (2 ^ n - 1) (2 * 0 + inN st) ≤ nowN st := by
    rw [show 2 * 0 + inN st = inN st by omega, htab.1]
    exact Nat.le_refl _
  obtain ⟨s2, b1, b2, b3, b4⟩ := r_ends (N := N) (i0 := inN st) (m := nowN st) hN1 W hD hle h2 htab hS rfl hC hSH 11 (MS n (TT P st K D n mv (2 ^ n - 1))) 0 (inN st) (nowN st) 0 s1 (by omega) (by omega) (dj_0 (by omega)) h1' (by omega) hTn (by omega) a1 a2 a3
  have hb := b2 l hl w hw
  rw [Nat.zero_add] at hb
  have iw : inB (nI w) 8 = true := inA_nI (by omega) (by omega)
  have hin : sb (0 ≤ nI w ∧ nI w ≤ nI (pcf (MS n (TT P st K D n mv (2 ^ n - 1)))) - 1) = 1 := by
    refine sb_pos ⟨nI_pos' (by omega), ?_⟩
    rw [show (1 : Int32) = nI 1 from rfl, nI_sub (by omega)]
    exact nI_le (by omega) (by omega)
  refine ⟨s2, ?_, (b4.1 _ _ (by omega)).trans a4, Fr_t a6 (Fr_m b4 (fun a j q => by unfold rQ; omega))⟩
  rw [a7, hin, if_pos (by decide), b1]
  simp (decide := true) only [ob_s, cS_l, cS_r, gI_k, gR_k, pI_k, pR_k, cV_k, aI_k, tI_k, rZ_0, rZ_1, rZ_i, rf_12_0, rf_12_1, rf_12_3, rf_12_4, rf_12_5, rf_12_6, rf_12_7, rf_12_8, rf_12_9, rf_12_10, rf_12_11, rf_12_12, rf_12_13, rf_12_14, rf_12_15, rf_12_26, rf_12_27, rf_12_31, rf_12_32, rf_12_33, rf_12_34, rf_12_41, rf_12_44, rf_12_47, rf_12_48, rf_12_49, rf_12_51, rf_12_55, rf_12_56, rf_12_57, rf_12_58, rf_12_59, rf_12_60, Nat.reduceAdd, kc_419, kc_420, kc_421, kc_422, kc_423, kc_424, kc_425, kc_426, kc_427, kc_428, kc_429, kc_430, kc_431, kc_432, kc_433, kc_434, kc_435, kc_436, kc_437, kc_438, kc_439, kc_440, kc_441, kc_442, kc_443, kc_444, kc_445, kc_446, kc_447, kc_448, kc_449, kc_450, kc_451, kc_452, kc_453, kn_420, kn_421, kn_422, kn_423, kn_424, kn_425, kn_426, kn_427, kn_428, kn_429, kn_430, kn_431, kn_432, kn_433, kn_434, kn_435, kn_436, kn_437, kn_438, kn_439, kn_440, kn_441, kn_442, kn_443, kn_444, kn_445, kn_446, kn_447, kn_448, kn_449, kn_450, kn_451, kn_452, kn_453, iw, nI_clamp (show w < 2 ^ 31 by omega), hb]
theorem r_order' {x : Int32} (hN1 : 1000 ≤ N) (W : Wp P n D mv) (Z : Ws st n D) (h : RU s P st K) (hx : ¬ (0 ≤ x ∧ x ≤ nI (aOrd P st K n D mv).length - 1)) : ∃ s', fX12_order N 419 x (mk s) = some (.inl 0, mk s') ∧ s'.1 419 2 = 1 ∧ Fr rQ s s' := by
  obtain ⟨s1, a1, a2, a3, a4, a5, a6, a7⟩ := r_order0 (N := N) hN1 W Z h
  rw [aOrd_len W Z] at hx
  refine ⟨sI s1 419 2 1, ?_, by simp [sI_c], Fr_t a6 (Fr_sI (by unfold rQ; omega))⟩
  rw [a7, sb_neg hx, if_neg (by decide)]
theorem r_soonest (hN1 : 1000 ≤ N) (W : Wp P n D mv) (Z : Ws st n D) (h : RU s P st K) (hw : w < 2 ^ n) (hd : w &&& hN st = 0) : ∃ s', fX12_soonest N 419 (nI w) (mk s) = some (.inl (aSoon P st K n D mv w), mk s') ∧ s'.1 419 2 = 0 ∧ Fr rQ s s' := by
  have hp8 := pn8 W.1
  obtain ⟨b1, b2, b3⟩ := r_begin h W
  have hD := W.2.2.2.1
  have hpos := Nat.two_pow_pos n
  obtain ⟨⟨h0, hnow⟩, ⟨h1, h1'⟩, ⟨h2, h2'⟩⟩ := Ws_n Z W.1 W.2.2.2.1
  obtain ⟨s', a1, a2, a3, a4, a5, a6, a7⟩ := r_tellNow (N := N) (w := w) hN1 W Z b1 hD (by omega)
  refine ⟨s', ?_, a6.trans b2, Fr_t b3 a7⟩
  have e2 : s.1 435 2 = nI (hN st) := (h.2.1 2 (by omega)).trans h2
  have h' : RU (sI s 419 2 0) P st K := RU_fr h (Fr_sI (by unfold rQ; omega))
  have hin : fX12_isIn N (nI w).toInt64 0 (nI (2 ^ n - 1)).toInt64 (mk (sI s 419 2 0)) = some (.inl 1, mk (sI s 419 2 0)) := by
    rw [m_isIn0 N _ (nI w) _ (2 ^ n - 1) rfl, sb_pos ((in_rng (by omega)).mpr ⟨w, by omega, rfl⟩)]
  unfold fX12_soonest bX12_soonest_0
  simp (decide := true) only [ob_s, cS_l, cS_r, gI_k, gR_k, pI_k, pR_k, cV_k, aI_k, tI_k, rZ_0, rZ_1, rZ_i, rf_12_0, rf_12_1, rf_12_3, rf_12_4, rf_12_5, rf_12_6, rf_12_7, rf_12_8, rf_12_9, rf_12_10, rf_12_11, rf_12_12, rf_12_13, rf_12_14, rf_12_15, rf_12_26, rf_12_27, rf_12_31, rf_12_32, rf_12_33, rf_12_34, rf_12_41, rf_12_44, rf_12_47, rf_12_48, rf_12_49, rf_12_51, rf_12_55, rf_12_56, rf_12_57, rf_12_58, rf_12_59, rf_12_60, Nat.reduceAdd, kc_419, kc_420, kc_421, kc_422, kc_423, kc_424, kc_425, kc_426, kc_427, kc_428, kc_429, kc_430, kc_431, kc_432, kc_433, kc_434, kc_435, kc_436, kc_437, kc_438, kc_439, kc_440, kc_441, kc_442, kc_443, kc_444, kc_445, kc_446, kc_447, kc_448, kc_449, kc_450, kc_451, kc_452, kc_453, kn_420, kn_421, kn_422, kn_423, kn_424, kn_425, kn_426, kn_427, kn_428, kn_429, kn_430, kn_431, kn_432, kn_433, kn_434, kn_435, kn_436, kn_437, kn_438, kn_439, kn_440, kn_441, kn_442, kn_443, kn_444, kn_445, kn_446, kn_447, kn_448, kn_449, kn_450, kn_451, kn_452, kn_453, r_all W h', hin, nc_2, m_set, sI_c, Nat.reduceEqDiff, false_and, if_false, e2, and_nI, hd, nI0]
  simp (decide := true) only [ob_s, cS_l, cS_r, gI_k, gR_k, pI_k, pR_k, cV_k, aI_k, tI_k, rZ_0, rZ_1, rZ_i, rf_12_0, rf_12_1, rf_12_3, rf_12_4, rf_12_5, rf_12_6, rf_12_7, rf_12_8, rf_12_9, rf_12_10, rf_12_11, rf_12_12, rf_12_13, rf_12_14, rf_12_15, rf_12_26, rf_12_27, rf_12_31, rf_12_32, rf_12_33, rf_12_34, rf_12_41, rf_12_44, rf_12_47, rf_12_48, rf_12_49, rf_12_51, rf_12_55, rf_12_56, rf_12_57, rf_12_58, rf_12_59, rf_12_60, Nat.reduceAdd, kc_419, kc_420, kc_421, kc_422, kc_423, kc_424, kc_425, kc_426, kc_427, kc_428, kc_429, kc_430, kc_431, kc_432, kc_433, kc_434, kc_435, kc_436, kc_437, kc_438, kc_439, kc_440, kc_441, kc_442, kc_443, kc_444, kc_445, kc_446, kc_447, kc_448, kc_449, kc_450, kc_451, kc_452, kc_453, kn_420, kn_421, kn_422, kn_423, kn_424, kn_425, kn_426, kn_427, kn_428, kn_429, kn_430, kn_431, kn_432, kn_433, kn_434, kn_435, kn_436, kn_437, kn_438, kn_439, kn_440, kn_441, kn_442, kn_443, kn_444, kn_445, kn_446, kn_447, kn_448, kn_449, kn_450, kn_451, kn_452, kn_453, a1, r_soonOf W.1 a2 (TT_le W hD Z hnow _) hw, if_true]
  have hsl : sn (TT P st K D n mv w) w ≤ 100000 := Nat.le_trans (Nat.min_le_left _ _) (TT_le W hD Z hnow _ _)
  unfold aSoon
  by_cases c : sn (TT P st K D n mv w) w < 100000
  · rw [if_pos c, if_pos (show nI (sn (TT P st K D n mv w) w) < 100000 from nI_lt (b := 100000) c (by omega))]
  · rw [if_neg c, if_neg (show ¬ nI (sn (TT P st K D n mv w) w) < 100000 from nI_nlt (b := 100000) (by omega) (by omega))]
theorem r_soonest' {x : Int32} (W : Wp P n D mv) (Z : Ws st n D) (h : RU s P st K) (hx : ¬ ∃ w, w < 2 ^ n ∧ x = nI w ∧ w &&& hN st = 0) : ∃ s', fX12_soonest N 419 x (mk s) = some (.inl 0, mk s') ∧ s'.1 419 2 = 1 ∧ Fr rQ s s' := by
  have hp8 := pn8 W.1
  have hpos := Nat.two_pow_pos n
  obtain ⟨_, _, ⟨h2, h2'⟩⟩ := Ws_n Z W.1 W.2.2.2.1
  have e2 : s.1 435 2 = nI (hN st) := (h.2.1 2 (by omega)).trans h2
  have h' : RU (sI s 419 2 0) P st K := RU_fr h (Fr_sI (by unfold rQ; omega))
  refine ⟨_, ?_, (r_badF (s := s)).1, (r_badF (s := s)).2⟩
  unfold fX12_soonest bX12_soonest_0 bX12_soonest_30
  simp (decide := true) only [ob_s, cS_l, cS_r, gI_k, gR_k, pI_k, pR_k, cV_k, aI_k, tI_k, rZ_0, rZ_1, rZ_i, rf_12_0, rf_12_1, rf_12_3, rf_12_4, rf_12_5, rf_12_6, rf_12_7, rf_12_8, rf_12_9, rf_12_10, rf_12_11, rf_12_12, rf_12_13, rf_12_14, rf_12_15, rf_12_26, rf_12_27, rf_12_31, rf_12_32, rf_12_33, rf_12_34, rf_12_41, rf_12_44, rf_12_47, rf_12_48, rf_12_49, rf_12_51, rf_12_55, rf_12_56, rf_12_57, rf_12_58, rf_12_59, rf_12_60, Nat.reduceAdd, kc_419, kc_420, kc_421, kc_422, kc_423, kc_424, kc_425, kc_426, kc_427, kc_428, kc_429, kc_430, kc_431, kc_432, kc_433, kc_434, kc_435, kc_436, kc_437, kc_438, kc_439, kc_440, kc_441, kc_442, kc_443, kc_444, kc_445, kc_446, kc_447, kc_448, kc_449, kc_450, kc_451, kc_452, kc_453, kn_420, kn_421, kn_422, kn_423, kn_424, kn_425, kn_426, kn_427, kn_428, kn_429, kn_430, kn_431, kn_432, kn_433, kn_434, kn_435, kn_436, kn_437, kn_438, kn_439, kn_440, kn_441, kn_442, kn_443, kn_444, kn_445, kn_446, kn_447, kn_448, kn_449, kn_450, kn_451, kn_452, kn_453, r_all W h', m_isIn0 N _ x _ (2 ^ n - 1) rfl, nc_2, sI_c, Nat.reduceEqDiff, false_and, if_false, e2, r_bad1, sb_eq0]
  by_cases c : 0 ≤ x ∧ x ≤ nI (2 ^ n - 1)
  · rw [if_neg (fun q => q c)]
    obtain ⟨w, hw, rfl⟩ := (in_rng (by omega)).mp c
    rw [and_nI, if_neg]
    intro q
    have hle : w &&& hN st ≤ w := Nat.and_le_left
    exact hx ⟨w, by omega, rfl, (nI_eq (b := 0) (by omega) (by omega)).mp q⟩
  · rw [if_pos c]
theorem r_shorter (hN1 : 1000 ≤ N) (W : Wp P n D mv) (Z : Ws st n D) (h : RU s P st K) (hw : w ≤ 480) : ∃ s', fX12_shorter N 419 (nI w) (mk s) = some (.inl (nI (pcf (MS n (TT P st K (max (nowN st) (D - w)) n mv (2 ^ n - 1))))), mk s') ∧ s'.1 419 2 = 0 ∧ Fr rQ s s' := by
  have hp8 := pn8 W.1
  have hD := W.2.2.2.1
  obtain ⟨⟨h0, hnow⟩, _⟩ := Ws_n Z W.1 W.2.2.2.1
  have f0 : Fr rQ s (sI (sI s 419 2 0) 419 30 (nI (max (nowN st) (D - w)))) := Fr_t (Fr_sI (by unfold rQ; omega)) (Fr_sI (by unfold rQ; omega))
  have h' := RU_fr h f0
  have hV : RV (sI (sI s 419 2 0) 419 30 (nI (max (nowN st) (D - w)))) P st K (max (nowN st) (D - w)) := ⟨h'.1, h'.2.1, h'.2.2, by simp [sI_c]⟩
  have hpos := Nat.two_pow_pos n
  obtain ⟨s', a1, a2, a3, a4⟩ := r_mostOf (N := N) (w := 2 ^ n - 1) hN1 W Z hV (by omega) (by omega) (by omega)
  refine ⟨s', ?_, a3.trans (by simp [sI_c]), Fr_t f0 a4⟩
  have e : mxI (nI (nowN st)) (nI D - nI w) = nI (max (nowN st) (D - w)) := by
    by_cases c : w ≤ D
    · rw [nI_sub c, mx_nI (by omega) (by omega)]
    · have hneg : (nI D - nI w).toInt = (D : Int) - w := by
        rw [Int32.toInt_sub, nI_toInt (by omega), nI_toInt (by omega)]
        exact Int.bmod_eq_of_le (by omega) (by omega)
      unfold mxI
      rw [if_neg]
      · rw [show max (nowN st) (D - w) = nowN st by omega]
      · rw [i32_lt, hneg, nI_toInt (by omega)]
        omega
  have e0 : s.1 435 0 = nI (nowN st) := (h.2.1 0 (by omega)).trans h0
  have e1 : s.1 422 1 = nI D := (h.1 0 1 (by omega) (by omega)).trans W.2.2.2.2.1
  have hin : sb (0 ≤ nI w ∧ nI w ≤ nI 480) = 1 := sb_pos ((in_rng (by omega)).mpr ⟨w, hw, rfl⟩)
  unfold fX12_shorter bX12_shorter_0
  simp (decide := true) only [ob_s, cS_l, cS_r, gI_k, gR_k, pI_k, pR_k, cV_k, aI_k, tI_k, rZ_0, rZ_1, rZ_i, rf_12_0, rf_12_1, rf_12_3, rf_12_4, rf_12_5, rf_12_6, rf_12_7, rf_12_8, rf_12_9, rf_12_10, rf_12_11, rf_12_12, rf_12_13, rf_12_14, rf_12_15, rf_12_26, rf_12_27, rf_12_31, rf_12_32, rf_12_33, rf_12_34, rf_12_41, rf_12_44, rf_12_47, rf_12_48, rf_12_49, rf_12_51, rf_12_55, rf_12_56, rf_12_57, rf_12_58, rf_12_59, rf_12_60, Nat.reduceAdd, kc_419, kc_420, kc_421, kc_422, kc_423, kc_424, kc_425, kc_426, kc_427, kc_428, kc_429, kc_430, kc_431, kc_432, kc_433, kc_434, kc_435, kc_436, kc_437, kc_438, kc_439, kc_440, kc_441, kc_442, kc_443, kc_444, kc_445, kc_446, kc_447, kc_448, kc_449, kc_450, kc_451, kc_452, kc_453, kn_420, kn_421, kn_422, kn_423, kn_424, kn_425, kn_426, kn_427, kn_428, kn_429, kn_430, kn_431, kn_432, kn_433, kn_434, kn_435, kn_436, kn_437, kn_438, kn_439, kn_440, kn_441, kn_442, kn_443, kn_444, kn_445, kn_446, kn_447, kn_448, kn_449, kn_450, kn_451, kn_452, kn_453, m_isIn0 N _ (nI w) 480 480 rfl, hin, nc_0, nc_1, sI_c, Nat.reduceEqDiff, false_and, if_false, e0, e1, e]
  simp (decide := true) only [ob_s, cS_l, cS_r, gI_k, gR_k, pI_k, pR_k, cV_k, aI_k, tI_k, rZ_0, rZ_1, rZ_i, rf_12_0, rf_12_1, rf_12_3, rf_12_4, rf_12_5, rf_12_6, rf_12_7, rf_12_8, rf_12_9, rf_12_10, rf_12_11, rf_12_12, rf_12_13, rf_12_14, rf_12_15, rf_12_26, rf_12_27, rf_12_31, rf_12_32, rf_12_33, rf_12_34, rf_12_41, rf_12_44, rf_12_47, rf_12_48, rf_12_49, rf_12_51, rf_12_55, rf_12_56, rf_12_57, rf_12_58, rf_12_59, rf_12_60, Nat.reduceAdd, kc_419, kc_420, kc_421, kc_422, kc_423, kc_424, kc_425, kc_426, kc_427, kc_428, kc_429, kc_430, kc_431, kc_432, kc_433, kc_434, kc_435, kc_436, kc_437, kc_438, kc_439, kc_440, kc_441, kc_442, kc_443, kc_444, kc_445, kc_446, kc_447, kc_448, kc_449, kc_450, kc_451, kc_452, kc_453, kn_420, kn_421, kn_422, kn_423, kn_424, kn_425, kn_426, kn_427, kn_428, kn_429, kn_430, kn_431, kn_432, kn_433, kn_434, kn_435, kn_436, kn_437, kn_438, kn_439, kn_440, kn_441, kn_442, kn_443, kn_444, kn_445, kn_446, kn_447, kn_448, kn_449, kn_450, kn_451, kn_452, kn_453, r_all W h', a1, if_true]
theorem r_shorter' {x : Int32} (hx : ¬ (0 ≤ x ∧ x ≤ nI 480)) : fX12_shorter N 419 x (mk s) = some (.inl 0, mk (sI (sI s 419 2 0) 419 2 1)) := by
  unfold fX12_shorter bX12_shorter_0
  simp (decide := true) only [ob_s, cS_l, cS_r, gI_k, gR_k, pI_k, pR_k, cV_k, aI_k, tI_k, rZ_0, rZ_1, rZ_i, rf_12_0, rf_12_1, rf_12_3, rf_12_4, rf_12_5, rf_12_6, rf_12_7, rf_12_8, rf_12_9, rf_12_10, rf_12_11, rf_12_12, rf_12_13, rf_12_14, rf_12_15, rf_12_26, rf_12_27, rf_12_31, rf_12_32, rf_12_33, rf_12_34, rf_12_41, rf_12_44, rf_12_47, rf_12_48, rf_12_49, rf_12_51, rf_12_55, rf_12_56, rf_12_57, rf_12_58, rf_12_59, rf_12_60, Nat.reduceAdd, kc_419, kc_420, kc_421, kc_422, kc_423, kc_424, kc_425, kc_426, kc_427, kc_428, kc_429, kc_430, kc_431, kc_432, kc_433, kc_434, kc_435, kc_436, kc_437, kc_438, kc_439, kc_440, kc_441, kc_442, kc_443, kc_444, kc_445, kc_446, kc_447, kc_448, kc_449, kc_450, kc_451, kc_452, kc_453, kn_420, kn_421, kn_422, kn_423, kn_424, kn_425, kn_426, kn_427, kn_428, kn_429, kn_430, kn_431, kn_432, kn_433, kn_434, kn_435, kn_436, kn_437, kn_438, kn_439, kn_440, kn_441, kn_442, kn_443, kn_444, kn_445, kn_446, kn_447, kn_448, kn_449, kn_450, kn_451, kn_452, kn_453, m_isIn0 N _ x 480 480 rfl, sb_neg hx, r_bad1, if_false]
theorem r_without (hN1 : 1000 ≤ N) (W : Wp P n D mv) (Z : Ws st n D) (h : RU s P st K) (hk : k < n) : ∃ s', fX12_without N 419 (nI k) (mk s) = some (.inl (aWout P st K n D mv k), mk s') ∧ s'.1 419 2 = 0 ∧ Fr rQ s s' := by
  have hn8 := W.1
  have hp8 := pn8 W.1
  have hD := W.2.2.2.1
  have hpos := Nat.two_pow_pos n
  obtain ⟨⟨h0, hnow⟩, _⟩ := Ws_n Z W.1 W.2.2.2.1
  obtain ⟨b1, b2, b3⟩ := r_begin h W
  obtain ⟨s1, a1, a2, a3, a4⟩ := r_mostOf (N := N) (w := 2 ^ n - 1) hN1 W Z b1 hD hnow (by omega)
  have hle := anN_le (2 ^ n - 1) (2 ^ k)
  obtain ⟨s2, d1, d2, d3, d4⟩ := r_mostOf (N := N) (w := anN (2 ^ n - 1) (2 ^ k)) hN1 W Z a2 hD hnow (by omega)
  refine ⟨s2, ?_, (d3.trans a3).trans b2, Fr_t (Fr_t b3 a4) d4⟩
  have e0 : s.1 422 0 = nI n := (h.1 0 0 (by omega) (by omega)).trans W.2.1
  have hin : sb (0 ≤ nI k ∧ nI k ≤ (sI s 419 2 0).1 422 0 - 1) = 1 := by
    refine sb_pos ⟨nI_pos' (by omega), ?_⟩
    simp only [sI_c, Nat.reduceEqDiff, false_and, if_false]
    rw [e0, show (1 : Int32) = nI 1 from rfl, nI_sub (by omega)]
    exact nI_le (by omega) (by omega)
  unfold fX12_without bX12_without_0
  simp (decide := true) only [ob_s, cS_l, cS_r, gI_k, gR_k, pI_k, pR_k, cV_k, aI_k, tI_k, rZ_0, rZ_1, rZ_i, rf_12_0, rf_12_1, rf_12_3, rf_12_4, rf_12_5, rf_12_6, rf_12_7, rf_12_8, rf_12_9, rf_12_10, rf_12_11, rf_12_12, rf_12_13, rf_12_14, rf_12_15, rf_12_26, rf_12_27, rf_12_31, rf_12_32, rf_12_33, rf_12_34, rf_12_41, rf_12_44, rf_12_47, rf_12_48, rf_12_49, rf_12_51, rf_12_55, rf_12_56, rf_12_57, rf_12_58, rf_12_59, rf_12_60, Nat.reduceAdd, kc_419, kc_420, kc_421, kc_422, kc_423, kc_424, kc_425, kc_426, kc_427, kc_428, kc_429, kc_430, kc_431, kc_432, kc_433, kc_434, kc_435, kc_436, kc_437, kc_438, kc_439, kc_440, kc_441, kc_442, kc_443, kc_444, kc_445, kc_446, kc_447, kc_448, kc_449, kc_450, kc_451, kc_452, kc_453, kn_420, kn_421, kn_422, kn_423, kn_424, kn_425, kn_426, kn_427, kn_428, kn_429, kn_430, kn_431, kn_432, kn_433, kn_434, kn_435, kn_436, kn_437, kn_438, kn_439, kn_440, kn_441, kn_442, kn_443, kn_444, kn_445, kn_446, kn_447, kn_448, kn_449, kn_450, kn_451, kn_452, kn_453, m_isShot, hin, m_set]
  simp (decide := true) only [sI_c, Nat.reduceEqDiff, false_and, if_false]
  simp (decide := true) only [ob_s, cS_l, cS_r, gI_k, gR_k, pI_k, pR_k, cV_k, aI_k, tI_k, rZ_0, rZ_1, rZ_i, rf_12_0, rf_12_1, rf_12_3, rf_12_4, rf_12_5, rf_12_6, rf_12_7, rf_12_8, rf_12_9, rf_12_10, rf_12_11, rf_12_12, rf_12_13, rf_12_14, rf_12_15, rf_12_26, rf_12_27, rf_12_31, rf_12_32, rf_12_33, rf_12_34, rf_12_41, rf_12_44, rf_12_47, rf_12_48, rf_12_49, rf_12_51, rf_12_55, rf_12_56, rf_12_57, rf_12_58, rf_12_59, rf_12_60, Nat.reduceAdd, kc_419, kc_420, kc_421, kc_422, kc_423, kc_424, kc_425, kc_426, kc_427, kc_428, kc_429, kc_430, kc_431, kc_432, kc_433, kc_434, kc_435, kc_436, kc_437, kc_438, kc_439, kc_440, kc_441, kc_442, kc_443, kc_444, kc_445, kc_446, kc_447, kc_448, kc_449, kc_450, kc_451, kc_452, kc_453, kn_420, kn_421, kn_422, kn_423, kn_424, kn_425, kn_426, kn_427, kn_428, kn_429, kn_430, kn_431, kn_432, kn_433, kn_434, kn_435, kn_436, kn_437, kn_438, kn_439, kn_440, kn_441, kn_442, kn_443, kn_444, kn_445, kn_446, kn_447, kn_448, kn_449, kn_450, kn_451, kn_452, kn_453, r_all W (RV_U b1), a1, r_all W (RV_U a2), nbit_i _ k (show 2 ^ n - 1 < 256 by omega) (by omega), d1]
  rfl
theorem r_without' {x : Int32} (hx : ¬ (0 ≤ x ∧ x ≤ s.1 422 0 - 1)) : fX12_without N 419 x (mk s) = some (.inl 0, mk (sI (sI s 419 2 0) 419 2 1)) := by
  have hin : sb (0 ≤ x ∧ x ≤ (sI s 419 2 0).1 422 0 - 1) = 0 := sb_neg hx
  unfold fX12_without bX12_without_0
  simp (decide := true) only [ob_s, cS_l, cS_r, gI_k, gR_k, pI_k, pR_k, cV_k, aI_k, tI_k, rZ_0, rZ_1, rZ_i, rf_12_0, rf_12_1, rf_12_3, rf_12_4, rf_12_5, rf_12_6, rf_12_7, rf_12_8, rf_12_9, rf_12_10, rf_12_11, rf_12_12, rf_12_13, rf_12_14, rf_12_15, rf_12_26, rf_12_27, rf_12_31, rf_12_32, rf_12_33, rf_12_34, rf_12_41, rf_12_44, rf_12_47, rf_12_48, rf_12_49, rf_12_51, rf_12_55, rf_12_56, rf_12_57, rf_12_58, rf_12_59, rf_12_60, Nat.reduceAdd, kc_419, kc_420, kc_421, kc_422, kc_423, kc_424, kc_425, kc_426, kc_427, kc_428, kc_429, kc_430, kc_431, kc_432, kc_433, kc_434, kc_435, kc_436, kc_437, kc_438, kc_439, kc_440, kc_441, kc_442, kc_443, kc_444, kc_445, kc_446, kc_447, kc_448, kc_449, kc_450, kc_451, kc_452, kc_453, kn_420, kn_421, kn_422, kn_423, kn_424, kn_425, kn_426, kn_427, kn_428, kn_429, kn_430, kn_431, kn_432, kn_433, kn_434, kn_435, kn_436, kn_437, kn_438, kn_439, kn_440, kn_441, kn_442, kn_443, kn_444, kn_445, kn_446, kn_447, kn_448, kn_449, kn_450, kn_451, kn_452, kn_453, m_isShot, hin, r_bad1, if_false]
theorem RV_on {b : Bool} (h : RV s P st K E) (hw : w < 2) : RV (sI s 435 (5 + w) (sk_i b)) P (sOn st w b) K E := by
  refine ⟨fun f k hf hk => ?_, fun j hj => ?_, fun m hm => ?_, ?_⟩
  · rw [sI_1, if_neg (by omega)]; exact h.1 f k hf hk
  · rw [sI_1]
    unfold sOn
    by_cases c : j = 5 + w
    · rw [if_pos ⟨rfl, c⟩, if_pos c]
    · rw [if_neg (fun q => c q.2), if_neg c]; exact h.2.1 j hj
  · rw [sI_1, if_neg (by omega)]; exact h.2.2.1 m hm
  · rw [sI_1, if_neg (by omega)]; exact h.2.2.2
theorem wsum (x y : Int32) : 0 + -x + y = y - x := by rw [Int32.zero_add, Int32.add_comm, Int32.sub_eq_add_neg]
theorem wor_s {N m v0 : Nat} {v1 v2 v3 v4 : Int32} {c : mm_C} : lX12_worth_38 N (m + 1) v0 v1 v2 v3 v4 c = bX12_worth_38 N (lX12_worth_38 N m) v0 v1 v2 v3 v4 c := rfl
theorem r_worth (hN1 : 1000 ≤ N) (W : Wp P n D mv) (Z : Ws st n D) (h : RU s P st K) (hw : w < 2) : ∃ s', fX12_worth N 419 (nI w) (mk s) = some (.inl (aWth P st K n D mv w), mk s') ∧ s'.1 419 2 = 0 ∧ Fr rQ s s' := by
  have hp8 := pn8 W.1
  have hD := W.2.2.2.1
  have hpos := Nat.two_pow_pos n
  obtain ⟨⟨h0, hnow⟩, _⟩ := Ws_n Z W.1 W.2.2.2.1
  obtain ⟨b1, b2, b3⟩ := r_begin h W
  have Z0 := Ws_on Z w false hw
  have Z1 := Ws_on Z w true hw
  have hV0 := RV_on (w := w) (b := false) b1 hw
  obtain ⟨s1, a1, a2, a3, a4⟩ := r_mostOf (N := N) (w := 2 ^ n - 1) hN1 W Z0.1 hV0 hD (by rw [Z0.2]; exact hnow) (by omega)
  have hV1 := RV_on (w := w) (b := true) a2 hw
  rw [sOn_on] at hV1
  obtain ⟨s2, d1, d2, d3, d4⟩ := r_mostOf (N := N) (w := 2 ^ n - 1) hN1 W Z1.1 hV1 hD (by rw [Z1.2]; exact hnow) (by omega)
  refine ⟨sI s2 435 (5 + w) (s.1 435 (5 + w)), ?_, ?_, ?_⟩
  · have c5 : (5 : Int32) + nI w = nI (5 + w) := by rw [show (5 : Int32) = nI 5 from rfl, nI_add]
    have i5 : inB (nI (5 + w)) 15 = true := inA_nI (by omega) (by omega)
    obtain ⟨M, hM⟩ : ∃ M, N = M + 3 := ⟨N - 3, by omega⟩
    unfold fX12_worth bX12_worth_0
    simp (decide := true) only [ob_s, cS_l, cS_r, gI_k, gR_k, pI_k, pR_k, cV_k, aI_k, tI_k, rZ_0, rZ_1, rZ_i, rf_12_0, rf_12_1, rf_12_3, rf_12_4, rf_12_5, rf_12_6, rf_12_7, rf_12_8, rf_12_9, rf_12_10, rf_12_11, rf_12_12, rf_12_13, rf_12_14, rf_12_15, rf_12_26, rf_12_27, rf_12_31, rf_12_32, rf_12_33, rf_12_34, rf_12_41, rf_12_44, rf_12_47, rf_12_48, rf_12_49, rf_12_51, rf_12_55, rf_12_56, rf_12_57, rf_12_58, rf_12_59, rf_12_60, Nat.reduceAdd, kc_419, kc_420, kc_421, kc_422, kc_423, kc_424, kc_425, kc_426, kc_427, kc_428, kc_429, kc_430, kc_431, kc_432, kc_433, kc_434, kc_435, kc_436, kc_437, kc_438, kc_439, kc_440, kc_441, kc_442, kc_443, kc_444, kc_445, kc_446, kc_447, kc_448, kc_449, kc_450, kc_451, kc_452, kc_453, kn_420, kn_421, kn_422, kn_423, kn_424, kn_425, kn_426, kn_427, kn_428, kn_429, kn_430, kn_431, kn_432, kn_433, kn_434, kn_435, kn_436, kn_437, kn_438, kn_439, kn_440, kn_441, kn_442, kn_443, kn_444, kn_445, kn_446, kn_447, kn_448, kn_449, kn_450, kn_451, kn_452, kn_453]
    rw [if_neg (nI_pos (by omega)), if_pos (show nI w ≤ 1 from nI_le (b := 1) (by omega) (by omega))]
    simp (decide := true) only [ob_s, cS_l, cS_r, gI_k, gR_k, pI_k, pR_k, cV_k, aI_k, tI_k, rZ_0, rZ_1, rZ_i, rf_12_0, rf_12_1, rf_12_3, rf_12_4, rf_12_5, rf_12_6, rf_12_7, rf_12_8, rf_12_9, rf_12_10, rf_12_11, rf_12_12, rf_12_13, rf_12_14, rf_12_15, rf_12_26, rf_12_27, rf_12_31, rf_12_32, rf_12_33, rf_12_34, rf_12_41, rf_12_44, rf_12_47, rf_12_48, rf_12_49, rf_12_51, rf_12_55, rf_12_56, rf_12_57, rf_12_58, rf_12_59, rf_12_60, Nat.reduceAdd, kc_419, kc_420, kc_421, kc_422, kc_423, kc_424, kc_425, kc_426, kc_427, kc_428, kc_429, kc_430, kc_431, kc_432, kc_433, kc_434, kc_435, kc_436, kc_437, kc_438, kc_439, kc_440, kc_441, kc_442, kc_443, kc_444, kc_445, kc_446, kc_447, kc_448, kc_449, kc_450, kc_451, kc_452, kc_453, kn_420, kn_421, kn_422, kn_423, kn_424, kn_425, kn_426, kn_427, kn_428, kn_429, kn_430, kn_431, kn_432, kn_433, kn_434, kn_435, kn_436, kn_437, kn_438, kn_439, kn_440, kn_441, kn_442, kn_443, kn_444, kn_445, kn_446, kn_447, kn_448, kn_449, kn_450, kn_451, kn_452, kn_453, m_set]
    simp (decide := true) only [sI_c, Nat.reduceEqDiff, false_and, if_false]
    simp (decide := true) only [ob_s, cS_l, cS_r, gI_k, gR_k, pI_k, pR_k, cV_k, aI_k, tI_k, rZ_0, rZ_1, rZ_i, rf_12_0, rf_12_1, rf_12_3, rf_12_4, rf_12_5, rf_12_6, rf_12_7, rf_12_8, rf_12_9, rf_12_10, rf_12_11, rf_12_12, rf_12_13, rf_12_14, rf_12_15, rf_12_26, rf_12_27, rf_12_31, rf_12_32, rf_12_33, rf_12_34, rf_12_41, rf_12_44, rf_12_47, rf_12_48, rf_12_49, rf_12_51, rf_12_55, rf_12_56, rf_12_57, rf_12_58, rf_12_59, rf_12_60, Nat.reduceAdd, kc_419, kc_420, kc_421, kc_422, kc_423, kc_424, kc_425, kc_426, kc_427, kc_428, kc_429, kc_430, kc_431, kc_432, kc_433, kc_434, kc_435, kc_436, kc_437, kc_438, kc_439, kc_440, kc_441, kc_442, kc_443, kc_444, kc_445, kc_446, kc_447, kc_448, kc_449, kc_450, kc_451, kc_452, kc_453, kn_420, kn_421, kn_422, kn_423, kn_424, kn_425, kn_426, kn_427, kn_428, kn_429, kn_430, kn_431, kn_432, kn_433, kn_434, kn_435, kn_436, kn_437, kn_438, kn_439, kn_440, kn_441, kn_442, kn_443, kn_444, kn_445, kn_446, kn_447, kn_448, kn_449, kn_450, kn_451, kn_452, kn_453, c5, i5, nI_clamp (show 5 + w < 2 ^ 31 by omega)]
    simp (decide := true) only [sI_c, Nat.reduceEqDiff, false_and, if_false]
    have el : lX12_worth_38 N N = lX12_worth_38 N (M + 3) := by rw [← hM]
    rw [el]
    rw [wor_s]
    unfold bX12_worth_38
    rw [if_neg (by decide)]
    simp (decide := true) only [ob_s, cS_l, cS_r, gI_k, gR_k, pI_k, pR_k, cV_k, aI_k, tI_k, rZ_0, rZ_1, rZ_i, rf_12_0, rf_12_1, rf_12_3, rf_12_4, rf_12_5, rf_12_6, rf_12_7, rf_12_8, rf_12_9, rf_12_10, rf_12_11, rf_12_12, rf_12_13, rf_12_14, rf_12_15, rf_12_26, rf_12_27, rf_12_31, rf_12_32, rf_12_33, rf_12_34, rf_12_41, rf_12_44, rf_12_47, rf_12_48, rf_12_49, rf_12_51, rf_12_55, rf_12_56, rf_12_57, rf_12_58, rf_12_59, rf_12_60, Nat.reduceAdd, kc_419, kc_420, kc_421, kc_422, kc_423, kc_424, kc_425, kc_426, kc_427, kc_428, kc_429, kc_430, kc_431, kc_432, kc_433, kc_434, kc_435, kc_436, kc_437, kc_438, kc_439, kc_440, kc_441, kc_442, kc_443, kc_444, kc_445, kc_446, kc_447, kc_448, kc_449, kc_450, kc_451, kc_452, kc_453, kn_420, kn_421, kn_422, kn_423, kn_424, kn_425, kn_426, kn_427, kn_428, kn_429, kn_430, kn_431, kn_432, kn_433, kn_434, kn_435, kn_436, kn_437, kn_438, kn_439, kn_440, kn_441, kn_442, kn_443, kn_444, kn_445, kn_446, kn_447, kn_448, kn_449, kn_450, kn_451, kn_452, kn_453, c5, i5, nI_clamp (show 5 + w < 2 ^ 31 by omega)]
    have hV0' := hV0
    rw [show sk_i false = (0 : Int32) from rfl] at hV0' a1
    simp (decide := true) only [ob_s, cS_l, cS_r, gI_k, gR_k, pI_k, pR_k, cV_k, aI_k, tI_k, rZ_0, rZ_1, rZ_i, rf_12_0, rf_12_1, rf_12_3, rf_12_4, rf_12_5, rf_12_6, rf_12_7, rf_12_8, rf_12_9, rf_12_10, rf_12_11, rf_12_12, rf_12_13, rf_12_14, rf_12_15, rf_12_26, rf_12_27, rf_12_31, rf_12_32, rf_12_33, rf_12_34, rf_12_41, rf_12_44, rf_12_47, rf_12_48, rf_12_49, rf_12_51, rf_12_55, rf_12_56, rf_12_57, rf_12_58, rf_12_59, rf_12_60, Nat.reduceAdd, kc_419, kc_420, kc_421, kc_422, kc_423, kc_424, kc_425, kc_426, kc_427, kc_428, kc_429, kc_430, kc_431, kc_432, kc_433, kc_434, kc_435, kc_436, kc_437, kc_438, kc_439, kc_440, kc_441, kc_442, kc_443, kc_444, kc_445, kc_446, kc_447, kc_448, kc_449, kc_450, kc_451, kc_452, kc_453, kn_420, kn_421, kn_422, kn_423, kn_424, kn_425, kn_426, kn_427, kn_428, kn_429, kn_430, kn_431, kn_432, kn_433, kn_434, kn_435, kn_436, kn_437, kn_438, kn_439, kn_440, kn_441, kn_442, kn_443, kn_444, kn_445, kn_446, kn_447, kn_448, kn_449, kn_450, kn_451, kn_452, kn_453, r_all W (RV_U hV0'), a1, if_true]
    unfold bX12_worth_81
    rw [wor_s]
    unfold bX12_worth_38
    rw [if_neg (by decide)]
    simp (decide := true) only [ob_s, cS_l, cS_r, gI_k, gR_k, pI_k, pR_k, cV_k, aI_k, tI_k, rZ_0, rZ_1, rZ_i, rf_12_0, rf_12_1, rf_12_3, rf_12_4, rf_12_5, rf_12_6, rf_12_7, rf_12_8, rf_12_9, rf_12_10, rf_12_11, rf_12_12, rf_12_13, rf_12_14, rf_12_15, rf_12_26, rf_12_27, rf_12_31, rf_12_32, rf_12_33, rf_12_34, rf_12_41, rf_12_44, rf_12_47, rf_12_48, rf_12_49, rf_12_51, rf_12_55, rf_12_56, rf_12_57, rf_12_58, rf_12_59, rf_12_60, Nat.reduceAdd, kc_419, kc_420, kc_421, kc_422, kc_423, kc_424, kc_425, kc_426, kc_427, kc_428, kc_429, kc_430, kc_431, kc_432, kc_433, kc_434, kc_435, kc_436, kc_437, kc_438, kc_439, kc_440, kc_441, kc_442, kc_443, kc_444, kc_445, kc_446, kc_447, kc_448, kc_449, kc_450, kc_451, kc_452, kc_453, kn_420, kn_421, kn_422, kn_423, kn_424, kn_425, kn_426, kn_427, kn_428, kn_429, kn_430, kn_431, kn_432, kn_433, kn_434, kn_435, kn_436, kn_437, kn_438, kn_439, kn_440, kn_441, kn_442, kn_443, kn_444, kn_445, kn_446, kn_447, kn_448, kn_449, kn_450, kn_451, kn_452, kn_453, c5, i5, nI_clamp (show 5 + w < 2 ^ 31 by omega)]
    have hV1' := hV1
    rw [show sk_i true = (1 : Int32) from rfl] at hV1' d1
    simp (decide := true) only [ob_s, cS_l, cS_r, gI_k, gR_k, pI_k, pR_k, cV_k, aI_k, tI_k, rZ_0, rZ_1, rZ_i, rf_12_0, rf_12_1, rf_12_3, rf_12_4, rf_12_5, rf_12_6, rf_12_7, rf_12_8, rf_12_9, rf_12_10, rf_12_11, rf_12_12, rf_12_13, rf_12_14, rf_12_15, rf_12_26, rf_12_27, rf_12_31, rf_12_32, rf_12_33, rf_12_34, rf_12_41, rf_12_44, rf_12_47, rf_12_48, rf_12_49, rf_12_51, rf_12_55, rf_12_56, rf_12_57, rf_12_58, rf_12_59, rf_12_60, Nat.reduceAdd, kc_419, kc_420, kc_421, kc_422, kc_423, kc_424, kc_425, kc_426, kc_427, kc_428, kc_429, kc_430, kc_431, kc_432, kc_433, kc_434, kc_435, kc_436, kc_437, kc_438, kc_439, kc_440, kc_441, kc_442, kc_443, kc_444, kc_445, kc_446, kc_447, kc_448, kc_449, kc_450, kc_451, kc_452, kc_453, kn_420, kn_421, kn_422, kn_423, kn_424, kn_425, kn_426, kn_427, kn_428, kn_429, kn_430, kn_431, kn_432, kn_433, kn_434, kn_435, kn_436, kn_437, kn_438, kn_439, kn_440, kn_441, kn_442, kn_443, kn_444, kn_445, kn_446, kn_447, kn_448, kn_449, kn_450, kn_451, kn_452, kn_453, show (0 : Int32) + 1 = 1 from rfl, r_all W (RV_U hV1'), d1, if_false]
    unfold bX12_worth_81
    rw [wor_s]
    unfold bX12_worth_38
    rw [if_pos (by decide)]
    unfold bX12_worth_89
    simp (decide := true) only [ob_s, cS_l, cS_r, gI_k, gR_k, pI_k, pR_k, cV_k, aI_k, tI_k, rZ_0, rZ_1, rZ_i, rf_12_0, rf_12_1, rf_12_3, rf_12_4, rf_12_5, rf_12_6, rf_12_7, rf_12_8, rf_12_9, rf_12_10, rf_12_11, rf_12_12, rf_12_13, rf_12_14, rf_12_15, rf_12_26, rf_12_27, rf_12_31, rf_12_32, rf_12_33, rf_12_34, rf_12_41, rf_12_44, rf_12_47, rf_12_48, rf_12_49, rf_12_51, rf_12_55, rf_12_56, rf_12_57, rf_12_58, rf_12_59, rf_12_60, Nat.reduceAdd, kc_419, kc_420, kc_421, kc_422, kc_423, kc_424, kc_425, kc_426, kc_427, kc_428, kc_429, kc_430, kc_431, kc_432, kc_433, kc_434, kc_435, kc_436, kc_437, kc_438, kc_439, kc_440, kc_441, kc_442, kc_443, kc_444, kc_445, kc_446, kc_447, kc_448, kc_449, kc_450, kc_451, kc_452, kc_453, kn_420, kn_421, kn_422, kn_423, kn_424, kn_425, kn_426, kn_427, kn_428, kn_429, kn_430, kn_431, kn_432, kn_433, kn_434, kn_435, kn_436, kn_437, kn_438, kn_439, kn_440, kn_441, kn_442, kn_443, kn_444, kn_445, kn_446, kn_447, kn_448, kn_449, kn_450, kn_451, kn_452, kn_453, c5, i5, nI_clamp (show 5 + w < 2 ^ 31 by omega)]
    unfold aWth
    rw [wsum]
  · rw [sI_1, if_neg (by omega), d3, sI_1, if_neg (by omega), a3, sI_1, if_neg (by omega)]
    exact b2
  · have f1 : ∀ x j, ¬ rQ x j → ¬ (x = 435 ∧ j = 5 + w) → (sI s2 435 (5 + w) (s.1 435 (5 + w))).1 x j = s.1 x j := fun x j q1 q2 => by
      rw [sI_1, if_neg q2, d4.1 _ _ q1, sI_1, if_neg q2, a4.1 _ _ q1, sI_1, if_neg q2, b3.1 _ _ q1]
    refine ⟨fun x j q => ?_, fun x j q => ?_, ?_⟩
    · by_cases c : x = 435 ∧ j = 5 + w
      · rw [sI_1, if_pos c, c.1, c.2]
      · exact f1 x j q c
    · show s2.2.1 x j = _
      rw [d4.2.1 _ _ q]
      show s1.2.1 x j = _
      rw [a4.2.1 _ _ q]
      exact b3.2.1 _ _ q
    · show s2.2.2 = _
      rw [d4.2.2]
      show s1.2.2 = _
      rw [a4.2.2]
      exact b3.2.2
theorem r_worth' {x : Int32} (hx : x < 0 ∨ (¬ x < 0 ∧ nI 2 ≤ x)) : fX12_worth N 419 x (mk s) = some (.inl 0, mk (sI (sI s 419 2 0) 419 2 1)) := by
  unfold fX12_worth bX12_worth_0 bX12_worth_14
  simp (decide := true) only [ob_s, cS_l, cS_r, gI_k, gR_k, pI_k, pR_k, cV_k, aI_k, tI_k, rZ_0, rZ_1, rZ_i, rf_12_0, rf_12_1, rf_12_3, rf_12_4, rf_12_5, rf_12_6, rf_12_7, rf_12_8, rf_12_9, rf_12_10, rf_12_11, rf_12_12, rf_12_13, rf_12_14, rf_12_15, rf_12_26, rf_12_27, rf_12_31, rf_12_32, rf_12_33, rf_12_34, rf_12_41, rf_12_44, rf_12_47, rf_12_48, rf_12_49, rf_12_51, rf_12_55, rf_12_56, rf_12_57, rf_12_58, rf_12_59, rf_12_60, Nat.reduceAdd, kc_419, kc_420, kc_421, kc_422, kc_423, kc_424, kc_425, kc_426, kc_427, kc_428, kc_429, kc_430, kc_431, kc_432, kc_433, kc_434, kc_435, kc_436, kc_437, kc_438, kc_439, kc_440, kc_441, kc_442, kc_443, kc_444, kc_445, kc_446, kc_447, kc_448, kc_449, kc_450, kc_451, kc_452, kc_453, kn_420, kn_421, kn_422, kn_423, kn_424, kn_425, kn_426, kn_427, kn_428, kn_429, kn_430, kn_431, kn_432, kn_433, kn_434, kn_435, kn_436, kn_437, kn_438, kn_439, kn_440, kn_441, kn_442, kn_443, kn_444, kn_445, kn_446, kn_447, kn_448, kn_449, kn_450, kn_451, kn_452, kn_453, r_bad1]
  rcases hx with hx | hx
  · rw [if_pos hx]
  · rw [if_neg hx.1, if_neg]
    intro q
    have h1 := hx.2
    rw [show (1 : Int32) = nI 1 from rfl, i32_le, nI_toInt (by omega)] at q
    rw [i32_le, nI_toInt (by omega)] at h1
    omega
/-- what a shot is after is told ahead of it -/
def Wa (P : pln) (n : Nat) : Prop := ∀ k, k < n → P 6 k = -1 ∨ ∃ j, j < k ∧ P 6 k = nI j
/-- the shots that are out -/
def wOut (P : pln) : Nat → Nat
  | 0 => 0
  | k + 1 => wOut P k ||| (if P 1 k = 2 then 0 else 2 ^ k)
theorem wOut_tb (P : pln) : ∀ n j, (wOut P n).testBit j = (decide (j < n) && !decide (P 1 j = 2))
  | 0, j => by simp [wOut]
  | n + 1, j => by
    show (wOut P n ||| (if P 1 n = 2 then 0 else 2 ^ n)).testBit j = _
    rw [Nat.testBit_or, wOut_tb P n j]
    by_cases e : j = n
    · subst e
      by_cases c : P 1 j = 2
      · simp [c]
      · simp [c, Nat.testBit_two_pow]
    · by_cases c : P 1 n = 2
      · rw [if_pos c]
        by_cases g : j < n
        · simp [g, show j < n + 1 by omega]
        · simp [g, show ¬ j < n + 1 by omega]
      · rw [if_neg c, Nat.testBit_two_pow]
        by_cases g : j < n
        · simp [g, show j < n + 1 by omega, Ne.symm e]
        · simp [g, show ¬ j < n + 1 by omega, Ne.symm e]
theorem r_ins114 {k92 : Nat → Int32 → Int32 → mm_C → mR Int32} (W : Wp P n D mv) {v1 v2 : Int32} : ∀ (f i : Nat) (s : sg), n - i < f → i ≤ n → RV s P st K E → s.1 419 43 = nI (wOut P i) → ∃ s', lX12_inside_114 N k92 f 419 v1 v2 (nI i) (mk s) = bX12_inside_156 N k92 419 v1 v2 (mk s') ∧ s'.1 419 43 = nI (wOut P n) ∧ Fr (fun a j => a = 419 ∧ j = 43) s s' := by
  have hn8 := W.1
  intro f
  induction f with
  | zero => intro i s hf; omega
  | succ f ih =>
    intro i s hf hi hV hw
    show ∃ s', bX12_inside_114 N k92 (lX12_inside_114 N k92 f) 419 v1 v2 (nI i) (mk s) = _ ∧ _
    unfold bX12_inside_114
    have e0 : s.1 422 0 = nI n := (hV.1 0 0 (by omega) (by omega)).trans W.2.1
    simp (decide := true) only [ob_s, cS_l, cS_r, gI_k, gR_k, pI_k, pR_k, cV_k, aI_k, tI_k, rZ_0, rZ_1, rZ_i, rf_12_0, rf_12_1, rf_12_3, rf_12_4, rf_12_5, rf_12_6, rf_12_7, rf_12_8, rf_12_9, rf_12_10, rf_12_11, rf_12_12, rf_12_13, rf_12_14, rf_12_15, rf_12_26, rf_12_27, rf_12_31, rf_12_32, rf_12_33, rf_12_34, rf_12_41, rf_12_44, rf_12_47, rf_12_48, rf_12_49, rf_12_51, rf_12_55, rf_12_56, rf_12_57, rf_12_58, rf_12_59, rf_12_60, Nat.reduceAdd, kc_419, kc_420, kc_421, kc_422, kc_423, kc_424, kc_425, kc_426, kc_427, kc_428, kc_429, kc_430, kc_431, kc_432, kc_433, kc_434, kc_435, kc_436, kc_437, kc_438, kc_439, kc_440, kc_441, kc_442, kc_443, kc_444, kc_445, kc_446, kc_447, kc_448, kc_449, kc_450, kc_451, kc_452, kc_453, kn_420, kn_421, kn_422, kn_423, kn_424, kn_425, kn_426, kn_427, kn_428, kn_429, kn_430, kn_431, kn_432, kn_433, kn_434, kn_435, kn_436, kn_437, kn_438, kn_439, kn_440, kn_441, kn_442, kn_443, kn_444, kn_445, kn_446, kn_447, kn_448, kn_449, kn_450, kn_451, kn_452, kn_453, nc_0, e0]
    by_cases c : n ≤ i
    · rw [if_pos (nI_le c (by omega))]
      exact ⟨s, rfl, by rw [hw, show i = n by omega], Fr_r _ _⟩
    · rw [if_neg (nI_ge (by omega) (by omega))]
      have e1 : s.1 423 i = P 1 i := hV.1 1 i (by omega) (by omega)
      have ik : inB (nI i) 16 = true := inA_nI (by omega) (by omega)
      simp (decide := true) only [ob_s, cS_l, cS_r, gI_k, gR_k, pI_k, pR_k, cV_k, aI_k, tI_k, rZ_0, rZ_1, rZ_i, rf_12_0, rf_12_1, rf_12_3, rf_12_4, rf_12_5, rf_12_6, rf_12_7, rf_12_8, rf_12_9, rf_12_10, rf_12_11, rf_12_12, rf_12_13, rf_12_14, rf_12_15, rf_12_26, rf_12_27, rf_12_31, rf_12_32, rf_12_33, rf_12_34, rf_12_41, rf_12_44, rf_12_47, rf_12_48, rf_12_49, rf_12_51, rf_12_55, rf_12_56, rf_12_57, rf_12_58, rf_12_59, rf_12_60, Nat.reduceAdd, kc_419, kc_420, kc_421, kc_422, kc_423, kc_424, kc_425, kc_426, kc_427, kc_428, kc_429, kc_430, kc_431, kc_432, kc_433, kc_434, kc_435, kc_436, kc_437, kc_438, kc_439, kc_440, kc_441, kc_442, kc_443, kc_444, kc_445, kc_446, kc_447, kc_448, kc_449, kc_450, kc_451, kc_452, kc_453, kn_420, kn_421, kn_422, kn_423, kn_424, kn_425, kn_426, kn_427, kn_428, kn_429, kn_430, kn_431, kn_432, kn_433, kn_434, kn_435, kn_436, kn_437, kn_438, kn_439, kn_440, kn_441, kn_442, kn_443, kn_444, kn_445, kn_446, kn_447, kn_448, kn_449, kn_450, kn_451, kn_452, kn_453, hw, ik, nI_clamp (show i < 2 ^ 31 by omega), e1]
      have go : ∀ x : Int32, nI (wOut P i) ||| x = nI (wOut P (i + 1)) → ∃ s', bX12_inside_146 N k92 (lX12_inside_114 N k92 f) 419 v1 v2 (nI i) 419 (nI (wOut P i)) x (mk s) = bX12_inside_156 N k92 419 v1 v2 (mk s') ∧ s'.1 419 43 = nI (wOut P n) ∧ Fr (fun a j => a = 419 ∧ j = 43) s s' := by
        intro x hx
        unfold bX12_inside_146
        simp (decide := true) only [ob_s, cS_l, cS_r, gI_k, gR_k, pI_k, pR_k, cV_k, aI_k, tI_k, rZ_0, rZ_1, rZ_i, rf_12_0, rf_12_1, rf_12_3, rf_12_4, rf_12_5, rf_12_6, rf_12_7, rf_12_8, rf_12_9, rf_12_10, rf_12_11, rf_12_12, rf_12_13, rf_12_14, rf_12_15, rf_12_26, rf_12_27, rf_12_31, rf_12_32, rf_12_33, rf_12_34, rf_12_41, rf_12_44, rf_12_47, rf_12_48, rf_12_49, rf_12_51, rf_12_55, rf_12_56, rf_12_57, rf_12_58, rf_12_59, rf_12_60, Nat.reduceAdd, kc_419, kc_420, kc_421, kc_422, kc_423, kc_424, kc_425, kc_426, kc_427, kc_428, kc_429, kc_430, kc_431, kc_432, kc_433, kc_434, kc_435, kc_436, kc_437, kc_438, kc_439, kc_440, kc_441, kc_442, kc_443, kc_444, kc_445, kc_446, kc_447, kc_448, kc_449, kc_450, kc_451, kc_452, kc_453, kn_420, kn_421, kn_422, kn_423, kn_424, kn_425, kn_426, kn_427, kn_428, kn_429, kn_430, kn_431, kn_432, kn_433, kn_434, kn_435, kn_436, kn_437, kn_438, kn_439, kn_440, kn_441, kn_442, kn_443, kn_444, kn_445, kn_446, kn_447, kn_448, kn_449, kn_450, kn_451, kn_452, kn_453, hx, nI_1]
        have f1 : Fr (fun a j => a = 419 ∧ j = 43) s (sI s 419 43 (nI (wOut P (i + 1)))) := Fr_sI (by omega)
        obtain ⟨s', b1, b2, b3⟩ := ih (i + 1) (sI s 419 43 (nI (wOut P (i + 1)))) (by omega) (by omega) (RV_fr hV f1 (by intros; omega) (by intros; omega) (by omega)) (by simp [sI_c])
        exact ⟨s', b1, b2, Fr_t f1 b3⟩
      by_cases c2 : P 1 i = 2
      · rw [if_neg (fun q => q c2)]
        refine go 0 ?_
        show _ = nI (wOut P i ||| (if P 1 i = 2 then 0 else 2 ^ i))
        rw [if_pos c2, Nat.or_zero]
        exact Int32.or_zero
      · rw [if_pos c2]
        refine go _ ?_
        show _ = nI (wOut P i ||| (if P 1 i = 2 then 0 else 2 ^ i))
        rw [if_neg c2, or_bit _ _ (by omega)]
theorem ins_tab (W : Wp P n D mv) (hA : Wa P n) (Z : Ws st n D) (hD : D ≤ 480) {S t : Nat} (hSe : S = anN (wIn P n) (hN st)) (h0 : S ≠ 0) (ht : t ≤ D) : (dfr n mv D (bhk P st K D) (pls P) (frC P) S 1 t).isSome = true ↔ tFin n mv (bhk P st K D) (pls P) (opn P (hN st) S (wOut P n)) t 1 (2 * S + 1) < 100000 := by
  have hn8 := W.1
  have hp8 := pn8 hn8
  obtain ⟨_, _, ⟨h2, h2'⟩⟩ := Ws_n Z W.1 W.2.2.2.1
  have hwl := wIn_lt P n
  have hle := anN_le (wIn P n) (hN st)
  have hOB := bhk_okB (st := st) (K := K) W hD (hN st) S (wOut P n)
  have hT := tFin_tab hOB (show 1 ≤ 1 by omega) ht
  have hbS : ∀ j, S.testBit j = ((decide (j < n) && decide (P 1 j = 2)) && !(hN st).testBit j) := fun j => by rw [hSe, anN_tb (by omega), wIn_tb]
  have hC : Cls P (hN st) S (wOut P n) S := by
    intro k hk hb
    refine ⟨hb, ?_⟩
    have hk1 := hbS k
    rw [hb] at hk1
    have hkn : k < n := by
      by_cases c : k < n
      · exact c
      · simp [c] at hk1
    unfold afb
    rcases hA k hkn with h3 | ⟨j, hj, h3⟩
    · simp [h3]
    · rw [h3, nI_clamp (by omega)]
      simp only [Bool.or_eq_true]
      right
      rw [Nat.testBit_or, Nat.testBit_or, wOut_tb, hbS j]
      simp only [show j < n by omega, decide_true, Bool.true_and]
      cases (hN st).testBit j <;> cases decide (P 1 j = 2) <;> rfl
  have hSH : ∀ j, j < 8 → S.testBit j = true → (hN st ||| wOut P n).testBit j = false := fun j hj g => by
    rw [hbS j] at g
    simp only [Bool.and_eq_true, Bool.not_eq_true', decide_eq_true_eq] at g
    rw [Nat.testBit_or, wOut_tb, g.2]
    simp [g.1.2]
  have hlt : S < 2 ^ n := by omega
  constructor
  · intro h
    obtain ⟨q, q1, q2, q3⟩ := path_tab (fr := frC P) hOB hT (Nat.le_refl D) hlt (fun had rest k hk hd hr hf => by rw [frC_op W hC hd hk hr hSH]; exact hf) 8 S 0 1 t (pcf_8 S) (dj_0 (by omega)) (by omega) (by rw [show 2 * 0 + 1 = 1 by omega, hT.1]; exact Nat.le_refl _) h
    obtain ⟨k, k1, k2, k3⟩ := q3 h0
    rw [hbS k] at k2
    simp only [Bool.and_eq_true, decide_eq_true_eq] at k2
    unfold pls at k3
    rw [if_pos k2.1.2] at k3
    subst k3
    omega
  · intro h
    have hle2 : tFin n mv (bhk P st K D) (pls P) (opn P (hN st) S (wOut P n)) t 1 (2 * S + 1) ≤ D := by
      rcases hT.2.2.2.2 (2 * S + 1) with g | g <;> omega
    refine tab_path hOB hT (by omega) (Nat.le_refl D) (fun had rest k hk hd hr ho => ?_) S 0 1 ⟨by omega, by omega, by omega, fun j hj => by simp⟩ (by omega) (by omega) ?_
    · rw [← frC_op W hC hd hk hr hSH]; exact ho
    · rw [dfr_0, if_pos hle2]; rfl
theorem r_ins92 (hN1 : 1000 ≤ N) (W : Wp P n D mv) (hA : Wa P n) (Z : Ws st n D) (hD : D ≤ 480) {S : Nat} (hSe : S = anN (wIn P n) (hN st)) (h0 : S ≠ 0) : ∀ (f i : Nat) (s : sg), i + 1 < f → nowN st ≤ i + 1 → i + mv ≤ D → RV s P st K D → s.1 419 2 = 0 → (∀ m, i < m → (dfr n mv D (bhk P st K D) (pls P) (frC P) S 1 (m + mv)).isSome = false) → ∃ s' x, lX12_inside_92 N f 419 (nI S) (nI i) (mk s) = some (.inl x, mk s') ∧ ((∃ m, nowN st ≤ m ∧ m + mv ≤ D ∧ x = nI m ∧ (dfr n mv D (bhk P st K D) (pls P) (frC P) S 1 (m + mv)).isSome = true ∧ ∀ m', m < m' → (dfr n mv D (bhk P st K D) (pls P) (frC P) S 1 (m' + mv)).isSome = false) ∨ (x = -1 ∧ ∀ m, nowN st ≤ m → (dfr n mv D (bhk P st K D) (pls P) (frC P) S 1 (m + mv)).isSome = false)) ∧ s'.1 419 2 = 0 ∧ Fr rQ s s' := by
  have hn8 := W.1
  have hp8 := pn8 hn8
  have hp1 := pn1 (n := n)
  have hmv := W.2.2.2.2.2.1
  obtain ⟨⟨hw0, hnow⟩, _, ⟨h2, h2'⟩⟩ := Ws_n Z W.1 W.2.2.2.1
  have hwl := wIn_lt P n
  have hle := anN_le (wIn P n) (hN st)
  intro f
  induction f with
  | zero => intro i s hf; omega
  | succ f ih =>
    intro i s hf hi hiD hV hc0 hno
    show ∃ s' x, bX12_inside_92 N (lX12_inside_92 N f) 419 (nI S) (nI i) (mk s) = _ ∧ _
    unfold bX12_inside_92
    have e0 : s.1 435 0 = nI (nowN st) := (hV.2.1 0 (by omega)).trans hw0
    simp (decide := true) only [ob_s, cS_l, cS_r, gI_k, gR_k, pI_k, pR_k, cV_k, aI_k, tI_k, rZ_0, rZ_1, rZ_i, rf_12_0, rf_12_1, rf_12_3, rf_12_4, rf_12_5, rf_12_6, rf_12_7, rf_12_8, rf_12_9, rf_12_10, rf_12_11, rf_12_12, rf_12_13, rf_12_14, rf_12_15, rf_12_26, rf_12_27, rf_12_31, rf_12_32, rf_12_33, rf_12_34, rf_12_41, rf_12_44, rf_12_47, rf_12_48, rf_12_49, rf_12_51, rf_12_55, rf_12_56, rf_12_57, rf_12_58, rf_12_59, rf_12_60, Nat.reduceAdd, kc_419, kc_420, kc_421, kc_422, kc_423, kc_424, kc_425, kc_426, kc_427, kc_428, kc_429, kc_430, kc_431, kc_432, kc_433, kc_434, kc_435, kc_436, kc_437, kc_438, kc_439, kc_440, kc_441, kc_442, kc_443, kc_444, kc_445, kc_446, kc_447, kc_448, kc_449, kc_450, kc_451, kc_452, kc_453, kn_420, kn_421, kn_422, kn_423, kn_424, kn_425, kn_426, kn_427, kn_428, kn_429, kn_430, kn_431, kn_432, kn_433, kn_434, kn_435, kn_436, kn_437, kn_438, kn_439, kn_440, kn_441, kn_442, kn_443, kn_444, kn_445, kn_446, kn_447, kn_448, kn_449, kn_450, kn_451, kn_452, kn_453, nc_0, e0]
    by_cases c : i < nowN st
    · rw [if_pos (nI_lt c (by omega))]
      refine ⟨s, -1, rfl, Or.inr ⟨rfl, fun m hm => hno m (by omega)⟩, hc0, Fr_r _ _⟩
    · rw [if_neg (nI_nlt (by omega) (by omega))]
      have f1 : Fr (fun a j => a = 419 ∧ (j = 42 ∨ j = 43)) s (sI (sI s 419 42 (nI S)) 419 43 0) := Fr_t (Fr_sI (by omega)) (Fr_sI (by omega))
      have hV1 := RV_fr hV f1 (by intros; omega) (by intros; omega) (by omega)
      obtain ⟨s2, b1, b2, b3⟩ := r_ins114 (N := N) (k92 := lX12_inside_92 N f) (v1 := nI S) (v2 := nI i) W N 0 (sI (sI s 419 42 (nI S)) 419 43 0) (by omega) (by omega) hV1 (by simp [sI_c]; rfl)
      rw [nI0] at b1
      rw [b1]
      have hV2 := RV_fr hV1 b3 (by intros; omega) (by intros; omega) (by omega)
      have hal : s2.1 419 42 = nI S := by rw [b3.1 _ _ (by omega)]; simp [sI_c]
      have e2 : s2.1 422 2 = nI mv := (hV2.1 0 2 (by omega) (by omega)).trans W.2.2.2.2.2.2.1
      obtain ⟨s3, d1, d2, d3⟩ := r_tellSoon (N := N) (al := S) (fr := wOut P n) (m := i + mv) (i := 1) hN1 W hD h2 (by omega) (by omega) hV2 hal b2
      rw [show nI 1 = (1 : Int32) from rfl] at d1
      have x1 : (2 : Int32) * nI S + 1 = nI (2 * S + 1) := by rw [show (2 : Int32) = nI 2 from rfl, nI_mul, nI_1]
      have y1 : inB (nI (2 * S + 1)) 512 = true := inA_nI (by omega) (by omega)
      unfold bX12_inside_156
      simp (decide := true) only [ob_s, cS_l, cS_r, gI_k, gR_k, pI_k, pR_k, cV_k, aI_k, tI_k, rZ_0, rZ_1, rZ_i, rf_12_0, rf_12_1, rf_12_3, rf_12_4, rf_12_5, rf_12_6, rf_12_7, rf_12_8, rf_12_9, rf_12_10, rf_12_11, rf_12_12, rf_12_13, rf_12_14, rf_12_15, rf_12_26, rf_12_27, rf_12_31, rf_12_32, rf_12_33, rf_12_34, rf_12_41, rf_12_44, rf_12_47, rf_12_48, rf_12_49, rf_12_51, rf_12_55, rf_12_56, rf_12_57, rf_12_58, rf_12_59, rf_12_60, Nat.reduceAdd, kc_419, kc_420, kc_421, kc_422, kc_423, kc_424, kc_425, kc_426, kc_427, kc_428, kc_429, kc_430, kc_431, kc_432, kc_433, kc_434, kc_435, kc_436, kc_437, kc_438, kc_439, kc_440, kc_441, kc_442, kc_443, kc_444, kc_445, kc_446, kc_447, kc_448, kc_449, kc_450, kc_451, kc_452, kc_453, kn_420, kn_421, kn_422, kn_423, kn_424, kn_425, kn_426, kn_427, kn_428, kn_429, kn_430, kn_431, kn_432, kn_433, kn_434, kn_435, kn_436, kn_437, kn_438, kn_439, kn_440, kn_441, kn_442, kn_443, kn_444, kn_445, kn_446, kn_447, kn_448, kn_449, kn_450, kn_451, kn_452, kn_453, nc_2, e2, nI_add, d1, x1, y1, nI_clamp (show 2 * S + 1 < 2 ^ 31 by omega), d2 (2 * S + 1) (by omega)]
      have hTb := (tFin_tab (bhk_okB (st := st) (K := K) W hD (hN st) S (wOut P n)) (show 1 ≤ 1 by omega) (show i + mv ≤ D from hiD)).2.2.2.2 (2 * S + 1)
      have hiff := ins_tab (K := K) W hA Z hD hSe h0 (show i + mv ≤ D from hiD)
      have fr3 : Fr rQ s s3 := Fr_t (Fr_t (Fr_m f1 (fun a j q => by unfold rQ; omega)) (Fr_m b3 (fun a j q => by unfold rQ; omega))) (Fr_m d3 (fun a j q => by unfold rQ; omega))
      have hc3 : s3.1 419 2 = 0 := by rw [d3.1 _ _ (by omega), b3.1 _ _ (by omega)]; simp [sI_c]; exact hc0
      by_cases c2 : tFin n mv (bhk P st K D) (pls P) (opn P (hN st) S (wOut P n)) (i + mv) 1 (2 * S + 1) < 100000
      · rw [if_neg (show ¬ (100000 : Int32) ≤ nI _ from nI_ge (b := 100000) c2 (by omega))]
        unfold bX12_inside_184
        exact ⟨s3, nI i, rfl, Or.inl ⟨i, by omega, hiD, rfl, hiff.mpr c2, hno⟩, hc3, fr3⟩
      · rw [if_pos (show (100000 : Int32) ≤ nI _ from nI_le (a := 100000) (by omega) (by omega))]
        have hni : (dfr n mv D (bhk P st K D) (pls P) (frC P) S 1 (i + mv)).isSome = false := by
          cases g : (dfr n mv D (bhk P st K D) (pls P) (frC P) S 1 (i + mv)).isSome
          · rfl
          · exact absurd (hiff.mp g) c2
        have hV3 := RV_fr hV2 d3 (by intros; omega) (by intros; omega) (by omega)
        have em : nI i + -1 = nI i - 1 := by rw [Int32.sub_eq_add_neg]
        rw [em]
        cases i with
        | zero =>
          obtain ⟨f', rfl⟩ : ∃ f', f = f' + 1 := ⟨f - 1, by omega⟩
          have e03 : s3.1 435 0 = nI (nowN st) := (hV3.2.1 0 (by omega)).trans hw0
          refine ⟨s3, -1, ?_, Or.inr ⟨rfl, fun m hm => ?_⟩, hc3, fr3⟩
          · show bX12_inside_92 N (lX12_inside_92 N f') 419 (nI S) (nI 0 - 1) (mk s3) = _
            unfold bX12_inside_92
            simp (decide := true) only [ob_s, cS_l, cS_r, gI_k, gR_k, pI_k, pR_k, cV_k, aI_k, tI_k, rZ_0, rZ_1, rZ_i, rf_12_0, rf_12_1, rf_12_3, rf_12_4, rf_12_5, rf_12_6, rf_12_7, rf_12_8, rf_12_9, rf_12_10, rf_12_11, rf_12_12, rf_12_13, rf_12_14, rf_12_15, rf_12_26, rf_12_27, rf_12_31, rf_12_32, rf_12_33, rf_12_34, rf_12_41, rf_12_44, rf_12_47, rf_12_48, rf_12_49, rf_12_51, rf_12_55, rf_12_56, rf_12_57, rf_12_58, rf_12_59, rf_12_60, Nat.reduceAdd, kc_419, kc_420, kc_421, kc_422, kc_423, kc_424, kc_425, kc_426, kc_427, kc_428, kc_429, kc_430, kc_431, kc_432, kc_433, kc_434, kc_435, kc_436, kc_437, kc_438, kc_439, kc_440, kc_441, kc_442, kc_443, kc_444, kc_445, kc_446, kc_447, kc_448, kc_449, kc_450, kc_451, kc_452, kc_453, kn_420, kn_421, kn_422, kn_423, kn_424, kn_425, kn_426, kn_427, kn_428, kn_429, kn_430, kn_431, kn_432, kn_433, kn_434, kn_435, kn_436, kn_437, kn_438, kn_439, kn_440, kn_441, kn_442, kn_443, kn_444, kn_445, kn_446, kn_447, kn_448, kn_449, kn_450, kn_451, kn_452, kn_453, nc_0, e03]
            rw [if_pos]
            rw [i32_lt, nI_toInt (by omega)]
            have : (nI 0 - 1).toInt = -1 := by decide
            omega
          · rcases Nat.eq_zero_or_pos m with g | g
            · subst g; exact hni
            · exact hno m g
        | succ g =>
          rw [nI_pred]
          obtain ⟨s', x, k1, k2, k3, k4⟩ := ih g s3 (by omega) (by omega) (by omega) hV3 hc3 (fun m hm => by
            by_cases e : m = g + 1
            · rw [e]; exact hni
            · exact hno m (by omega))
          exact ⟨s', x, k1, k2, k3, Fr_t fr3 k4⟩
theorem r_ins13 (hN1 : 1000 ≤ N) (W : Wp P n D mv) (hA : Wa P n) (Z : Ws st n D) : ∀ (f i : Nat), n - i < f → i ≤ n → ∀ s, RV s P st K D → s.1 419 2 = 0 → ∃ s' x, lX12_inside_13 N f 419 (nI (anN (wIn P i) (hN st))) (nI i) (mk s) = some (.inl x, mk s') ∧ aIns P st K n D mv x ∧ s'.1 419 2 = 0 ∧ Fr rQ s s' := by
  have hn8 := W.1
  have hp8 := pn8 hn8
  have hD := W.2.2.2.1
  have hmv := W.2.2.2.2.2.1
  obtain ⟨⟨h0, hnow⟩, ⟨h1, h1'⟩, ⟨h2, h2'⟩⟩ := Ws_n Z W.1 W.2.2.2.1
  intro f
  induction f with
  | zero => intro i hf; omega
  | succ f ih =>
    intro i hf hi s hV hc0
    show ∃ s' x, bX12_inside_13 N (lX12_inside_13 N f) 419 (nI (anN (wIn P i) (hN st))) (nI i) (mk s) = _ ∧ _
    unfold bX12_inside_13
    have e0 : s.1 422 0 = nI n := (hV.1 0 0 (by omega) (by omega)).trans W.2.1
    have e1 : s.1 422 1 = nI D := (hV.1 0 1 (by omega) (by omega)).trans W.2.2.2.2.1
    have e2 : s.1 422 2 = nI mv := (hV.1 0 2 (by omega) (by omega)).trans W.2.2.2.2.2.2.1
    have e3 : s.1 435 1 = nI (inN st) := (hV.2.1 1 (by omega)).trans h1
    have e4 : s.1 435 2 = nI (hN st) := (hV.2.1 2 (by omega)).trans h2
    simp (decide := true) only [ob_s, cS_l, cS_r, gI_k, gR_k, pI_k, pR_k, cV_k, aI_k, tI_k, rZ_0, rZ_1, rZ_i, rf_12_0, rf_12_1, rf_12_3, rf_12_4, rf_12_5, rf_12_6, rf_12_7, rf_12_8, rf_12_9, rf_12_10, rf_12_11, rf_12_12, rf_12_13, rf_12_14, rf_12_15, rf_12_26, rf_12_27, rf_12_31, rf_12_32, rf_12_33, rf_12_34, rf_12_41, rf_12_44, rf_12_47, rf_12_48, rf_12_49, rf_12_51, rf_12_55, rf_12_56, rf_12_57, rf_12_58, rf_12_59, rf_12_60, Nat.reduceAdd, kc_419, kc_420, kc_421, kc_422, kc_423, kc_424, kc_425, kc_426, kc_427, kc_428, kc_429, kc_430, kc_431, kc_432, kc_433, kc_434, kc_435, kc_436, kc_437, kc_438, kc_439, kc_440, kc_441, kc_442, kc_443, kc_444, kc_445, kc_446, kc_447, kc_448, kc_449, kc_450, kc_451, kc_452, kc_453, kn_420, kn_421, kn_422, kn_423, kn_424, kn_425, kn_426, kn_427, kn_428, kn_429, kn_430, kn_431, kn_432, kn_433, kn_434, kn_435, kn_436, kn_437, kn_438, kn_439, kn_440, kn_441, kn_442, kn_443, kn_444, kn_445, kn_446, kn_447, kn_448, kn_449, kn_450, kn_451, kn_452, kn_453, nc_0, e0]
    by_cases c : n ≤ i
    · rw [if_pos (nI_le c (by omega))]
      have e : i = n := by omega
      subst e
      have hwl := wIn_lt P i
      have hle := anN_le (wIn P i) (hN st)
      unfold bX12_inside_62
      simp (decide := true) only [ob_s, cS_l, cS_r, gI_k, gR_k, pI_k, pR_k, cV_k, aI_k, tI_k, rZ_0, rZ_1, rZ_i, rf_12_0, rf_12_1, rf_12_3, rf_12_4, rf_12_5, rf_12_6, rf_12_7, rf_12_8, rf_12_9, rf_12_10, rf_12_11, rf_12_12, rf_12_13, rf_12_14, rf_12_15, rf_12_26, rf_12_27, rf_12_31, rf_12_32, rf_12_33, rf_12_34, rf_12_41, rf_12_44, rf_12_47, rf_12_48, rf_12_49, rf_12_51, rf_12_55, rf_12_56, rf_12_57, rf_12_58, rf_12_59, rf_12_60, Nat.reduceAdd, kc_419, kc_420, kc_421, kc_422, kc_423, kc_424, kc_425, kc_426, kc_427, kc_428, kc_429, kc_430, kc_431, kc_432, kc_433, kc_434, kc_435, kc_436, kc_437, kc_438, kc_439, kc_440, kc_441, kc_442, kc_443, kc_444, kc_445, kc_446, kc_447, kc_448, kc_449, kc_450, kc_451, kc_452, kc_453, kn_420, kn_421, kn_422, kn_423, kn_424, kn_425, kn_426, kn_427, kn_428, kn_429, kn_430, kn_431, kn_432, kn_433, kn_434, kn_435, kn_436, kn_437, kn_438, kn_439, kn_440, kn_441, kn_442, kn_443, kn_444, kn_445, kn_446, kn_447, kn_448, kn_449, kn_450, kn_451, kn_452, kn_453, nc_1, nc_2, e1, e2, e3]
      by_cases c1 : anN (wIn P i) (hN st) = 0
      · rw [if_pos (by rw [c1]; rfl)]
        refine ⟨s, -1, rfl, ?_, hc0, Fr_r _ _⟩
        rcases (show inN st = 0 ∨ inN st = 1 by omega) with g | g
        · exact Or.inr (Or.inl ⟨g, c1, rfl⟩)
        · exact Or.inl ⟨g, rfl⟩
      · rw [if_neg (show ¬ nI (anN (wIn P i) (hN st)) = 0 from fun q => c1 ((nI_eq (b := 0) (by omega) (by omega)).mp q))]
        by_cases c2 : inN st = 1
        · rw [if_neg (fun q => q (by rw [c2]; rfl))]
          exact ⟨s, -1, rfl, Or.inl ⟨c2, rfl⟩, hc0, Fr_r _ _⟩
        · rw [if_pos (show ¬ nI (inN st) = 1 from fun q => c2 ((nI_eq (b := 1) (by omega) (by omega)).mp q))]
          by_cases c3 : nowN st + mv ≤ D
          · rw [nI_sub (by omega)]
            obtain ⟨s', x, b1, b2, b3, b4⟩ := r_ins92 (N := N) hN1 W hA Z hD rfl c1 N (D - mv) s (by omega) (by omega) (by omega) hV hc0 (fun m hm => by
              cases g : (dfr i mv D (bhk P st K D) (pls P) (frC P) (anN (wIn P i) (hN st)) 1 (m + mv)).isSome
              · rfl
              · have := dfr_le (bhk_okB (st := st) (K := K) W hD 0 0 0) (Nat.le_refl D) (show anN (wIn P i) (hN st) < 256 by omega) g
                omega)
            exact ⟨s', x, b1, Or.inr (Or.inr ⟨by omega, c1, b2⟩), b3, b4⟩
          · obtain ⟨N', hN'⟩ : ∃ N', N = N' + 1 := ⟨N - 1, by omega⟩
            have e5 : s.1 435 0 = nI (nowN st) := (hV.2.1 0 (by omega)).trans h0
            refine ⟨s, -1, ?_, Or.inr (Or.inr ⟨by omega, c1, Or.inr ⟨rfl, fun m hm => ?_⟩⟩), hc0, Fr_r _ _⟩
            · have el : lX12_inside_92 N N = lX12_inside_92 N (N' + 1) := by rw [← hN']
              rw [el]
              show bX12_inside_92 N (lX12_inside_92 N N') 419 _ _ (mk s) = _
              unfold bX12_inside_92
              simp (decide := true) only [ob_s, cS_l, cS_r, gI_k, gR_k, pI_k, pR_k, cV_k, aI_k, tI_k, rZ_0, rZ_1, rZ_i, rf_12_0, rf_12_1, rf_12_3, rf_12_4, rf_12_5, rf_12_6, rf_12_7, rf_12_8, rf_12_9, rf_12_10, rf_12_11, rf_12_12, rf_12_13, rf_12_14, rf_12_15, rf_12_26, rf_12_27, rf_12_31, rf_12_32, rf_12_33, rf_12_34, rf_12_41, rf_12_44, rf_12_47, rf_12_48, rf_12_49, rf_12_51, rf_12_55, rf_12_56, rf_12_57, rf_12_58, rf_12_59, rf_12_60, Nat.reduceAdd, kc_419, kc_420, kc_421, kc_422, kc_423, kc_424, kc_425, kc_426, kc_427, kc_428, kc_429, kc_430, kc_431, kc_432, kc_433, kc_434, kc_435, kc_436, kc_437, kc_438, kc_439, kc_440, kc_441, kc_442, kc_443, kc_444, kc_445, kc_446, kc_447, kc_448, kc_449, kc_450, kc_451, kc_452, kc_453, kn_420, kn_421, kn_422, kn_423, kn_424, kn_425, kn_426, kn_427, kn_428, kn_429, kn_430, kn_431, kn_432, kn_433, kn_434, kn_435, kn_436, kn_437, kn_438, kn_439, kn_440, kn_441, kn_442, kn_443, kn_444, kn_445, kn_446, kn_447, kn_448, kn_449, kn_450, kn_451, kn_452, kn_453, nc_0, e5]
              rw [if_pos]
              rw [i32_lt, nI_toInt (by omega), Int32.toInt_sub, nI_toInt (by omega), nI_toInt (by omega), Int.bmod_eq_of_le (by omega) (by omega)]
              omega
            · cases g : (dfr i mv D (bhk P st K D) (pls P) (frC P) (anN (wIn P i) (hN st)) 1 (m + mv)).isSome
              · rfl
              · have := dfr_le (bhk_okB (st := st) (K := K) W hD 0 0 0) (Nat.le_refl D) (show anN (wIn P i) (hN st) < 256 by omega) g
                omega
    · rw [if_neg (nI_ge (by omega) (by omega))]
      have e5 : s.1 423 i = P 1 i := hV.1 1 i (by omega) (by omega)
      have ik : inB (nI i) 16 = true := inA_nI (by omega) (by omega)
      have hwl := wIn_lt P i
      have hp9 : 2 ^ i ≤ 256 := pn8 (by omega)
      have hwl2 := wIn_lt P (i + 1)
      have hp10 : 2 ^ (i + 1) ≤ 256 := pn8 (by omega)
      have hb : ((nI (hN st) >>> (nI i &&& 31)) &&& 1 = 1) ↔ (hN st).testBit i = true := by rw [bit_of _ _ (by omega), bt_nI _ _ (by omega)]
      simp (decide := true) only [ob_s, cS_l, cS_r, gI_k, gR_k, pI_k, pR_k, cV_k, aI_k, tI_k, rZ_0, rZ_1, rZ_i, rf_12_0, rf_12_1, rf_12_3, rf_12_4, rf_12_5, rf_12_6, rf_12_7, rf_12_8, rf_12_9, rf_12_10, rf_12_11, rf_12_12, rf_12_13, rf_12_14, rf_12_15, rf_12_26, rf_12_27, rf_12_31, rf_12_32, rf_12_33, rf_12_34, rf_12_41, rf_12_44, rf_12_47, rf_12_48, rf_12_49, rf_12_51, rf_12_55, rf_12_56, rf_12_57, rf_12_58, rf_12_59, rf_12_60, Nat.reduceAdd, kc_419, kc_420, kc_421, kc_422, kc_423, kc_424, kc_425, kc_426, kc_427, kc_428, kc_429, kc_430, kc_431, kc_432, kc_433, kc_434, kc_435, kc_436, kc_437, kc_438, kc_439, kc_440, kc_441, kc_442, kc_443, kc_444, kc_445, kc_446, kc_447, kc_448, kc_449, kc_450, kc_451, kc_452, kc_453, kn_420, kn_421, kn_422, kn_423, kn_424, kn_425, kn_426, kn_427, kn_428, kn_429, kn_430, kn_431, kn_432, kn_433, kn_434, kn_435, kn_436, kn_437, kn_438, kn_439, kn_440, kn_441, kn_442, kn_443, kn_444, kn_445, kn_446, kn_447, kn_448, kn_449, kn_450, kn_451, kn_452, kn_453, ik, nI_clamp (show i < 2 ^ 31 by omega), e5, nc_2, e4, m_isOf, sb_eq0, hb]
      unfold bX12_inside_53 bX12_inside_54
      rw [nI_1]
      have same : (¬ (P 1 i = 2 ∧ (hN st).testBit i = false)) → nI (anN (wIn P i) (hN st)) ||| 0 = nI (anN (wIn P (i + 1)) (hN st)) := fun hno => by
        rw [Int32.or_zero]
        congr 1
        apply Nat.eq_of_testBit_eq
        intro j
        rw [anN_tb (by omega), anN_tb (by omega), wIn_tb, wIn_tb]
        by_cases g : j = i
        · subst g
          by_cases g2 : P 1 j = 2
          · have : (hN st).testBit j = true := by
              cases g3 : (hN st).testBit j
              · exact absurd ⟨g2, g3⟩ hno
              · rfl
            simp [this]
          · simp [g2]
        · by_cases g2 : j < i
          · simp [g2, show j < i + 1 by omega]
          · simp [g2, show ¬ j < i + 1 by omega]
      by_cases c2 : P 1 i = 2
      · rw [if_neg (fun q => q c2)]
        by_cases c3 : (hN st).testBit i = true
        · rw [if_pos (fun q => q c3), same (fun q => by rw [c3] at q; cases q.2)]
          exact ih (i + 1) (by omega) (by omega) s hV hc0
        · rw [if_neg (fun q => q c3), or_bit _ _ (by omega)]
          have : anN (wIn P i) (hN st) ||| 2 ^ i = anN (wIn P (i + 1)) (hN st) := by
            apply Nat.eq_of_testBit_eq
            intro j
            rw [or_tb, anN_tb (by omega), anN_tb (by omega), wIn_tb, wIn_tb]
            by_cases g : j = i
            · subst g
              simp [c2]
              simpa using c3
            · by_cases g2 : j < i
              · simp [g2, show j < i + 1 by omega, Ne.symm g]
              · simp [g2, show ¬ j < i + 1 by omega, Ne.symm g]
          rw [this]
          exact ih (i + 1) (by omega) (by omega) s hV hc0
      · rw [if_pos c2, same (fun q => c2 q.1)]
        exact ih (i + 1) (by omega) (by omega) s hV hc0
theorem r_inside (hN1 : 1000 ≤ N) (W : Wp P n D mv) (hA : Wa P n) (Z : Ws st n D) (h : RU s P st K) : ∃ s' x, fX12_inside N 419 (mk s) = some (.inl x, mk s') ∧ aIns P st K n D mv x ∧ Fr rQ s s' := by
  have hn8 := W.1
  obtain ⟨b1, b2, b3⟩ := r_begin h W
  obtain ⟨s', x, a1, a2, a3, a4⟩ := r_ins13 (N := N) hN1 W hA Z N 0 (by omega) (by omega) _ b1 b2
  refine ⟨s', x, ?_, a2, Fr_t b3 a4⟩
  have e : anN (wIn P 0) (hN st) = 0 := Nat.zero_and _
  rw [e, nI0] at a1
  unfold fX12_inside bX12_inside_0
  simp (decide := true) only [ob_s, cS_l, cS_r, gI_k, gR_k, pI_k, pR_k, cV_k, aI_k, tI_k, rZ_0, rZ_1, rZ_i, rf_12_0, rf_12_1, rf_12_3, rf_12_4, rf_12_5, rf_12_6, rf_12_7, rf_12_8, rf_12_9, rf_12_10, rf_12_11, rf_12_12, rf_12_13, rf_12_14, rf_12_15, rf_12_26, rf_12_27, rf_12_31, rf_12_32, rf_12_33, rf_12_34, rf_12_41, rf_12_44, rf_12_47, rf_12_48, rf_12_49, rf_12_51, rf_12_55, rf_12_56, rf_12_57, rf_12_58, rf_12_59, rf_12_60, Nat.reduceAdd, kc_419, kc_420, kc_421, kc_422, kc_423, kc_424, kc_425, kc_426, kc_427, kc_428, kc_429, kc_430, kc_431, kc_432, kc_433, kc_434, kc_435, kc_436, kc_437, kc_438, kc_439, kc_440, kc_441, kc_442, kc_443, kc_444, kc_445, kc_446, kc_447, kc_448, kc_449, kc_450, kc_451, kc_452, kc_453, kn_420, kn_421, kn_422, kn_423, kn_424, kn_425, kn_426, kn_427, kn_428, kn_429, kn_430, kn_431, kn_432, kn_433, kn_434, kn_435, kn_436, kn_437, kn_438, kn_439, kn_440, kn_441, kn_442, kn_443, kn_444, kn_445, kn_446, kn_447, kn_448, kn_449, kn_450, kn_451, kn_452, kn_453, m_set]
  simp (decide := true) only [sI_c, Nat.reduceEqDiff, false_and, if_false]
  exact a1
end RQ
