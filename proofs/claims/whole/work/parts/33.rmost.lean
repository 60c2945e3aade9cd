/- needs: 32.rsoon -/
/-! the reference: the most that can be had -/
theorem in_rng {x : Int32} {b : Nat} (hb : b < 2 ^ 31) : (0 ≤ x ∧ x ≤ nI b) ↔ ∃ w, w ≤ b ∧ x = nI w := by
  constructor
  · rintro ⟨h0, h1⟩
    obtain ⟨w, hw, rfl⟩ := nI_of (Int32.not_lt.mpr h0)
    exact ⟨w, Nat.le_of_not_lt fun q => nI_ge q hw h1, rfl⟩
  · rintro ⟨w, hw, rfl⟩
    exact ⟨nI_pos' (by omega), nI_le hw (by omega)⟩
theorem m_isIn0 (N : Nat) (s : sg) (v : Int32) (b : Int64) (c : Nat) (hb : b = (nI c).toInt64) : fX12_isIn N v.toInt64 0 b (mk s) = some (.inl (sb (0 ≤ v ∧ v ≤ nI c)), mk s) := by
  rw [m_isIn, hb]
  have h0 : (0 : Int64) = (0 : Int32).toInt64 := by decide
  simp only [h0, i64_le]
theorem bits_step : ∀ v, v < 256 → v ≠ 0 → nI v &&& (nI v - 1) = nI (v &&& (v - 1)) ∧ (v &&& (v - 1)) < v ∧ pcf v = pcf (v &&& (v - 1)) + 1 := by decide +kernel
theorem m_bits4 {N : Nat} {s : sg} : ∀ (f v c : Nat), v < f → v < 256 → lX12_bitsOf_4 N f (nI c) (nI v) (mk s) = some (.inl (nI (c + pcf v)), mk s) := by
  intro f
  induction f with
  | zero => intro v c h; omega
  | succ f ih =>
    intro v c hf hv
    show bX12_bitsOf_4 N (lX12_bitsOf_4 N f) (nI c) (nI v) (mk s) = _
    unfold bX12_bitsOf_4 bX12_bitsOf_20
    by_cases h0 : v = 0
    · subst h0; rfl
    · obtain ⟨h1, h2, h3⟩ := bits_step v hv h0
      rw [if_neg (nI_ne0 (by omega) (by omega)), h1, nI_1, ih (v &&& (v - 1)) (c + 1) (by omega) (by omega), h3]
      congr 3
      congr 1
      omega
theorem m_bits {N : Nat} {s : sg} {v : Nat} (hN : 1000 ≤ N) (hv : v < 256) : fX12_bitsOf N (nI v) (mk s) = some (.inl (nI (pcf v)), mk s) := by
  have := m_bits4 (N := N) (s := s) N v 0 (by omega) hv
  rw [Nat.zero_add] at this
  exact this
theorem pcf_8 (v : Nat) : pcf v ≤ 8 := by unfold pcf; omega
/-- w without H -/
def anN (w H : Nat) : Nat := w &&& (255 ^^^ H)
theorem anN_tb {w H : Nat} (hw : w < 256) (j : Nat) : (anN w H).testBit j = (w.testBit j && !H.testBit j) := by
  unfold anN
  rw [Nat.testBit_and, Nat.testBit_xor, show (255 : Nat) = 2 ^ 8 - 1 from rfl, Nat.testBit_two_pow_sub_one]
  by_cases h : j < 8
  · simp [h]
  · have : w.testBit j = false := Nat.testBit_lt_two_pow (Nat.lt_of_lt_of_le hw (show 2 ^ 8 ≤ 2 ^ j from Nat.pow_le_pow_right (by omega) (by omega)))
    simp [this]
theorem anN_i {w H : Nat} (hw : w < 256) : nI w &&& (nI H ^^^ (-1 : Int32)) = nI (anN w H) := by
  refine b_ext fun i hi => ?_
  rw [b_and, b_xor, bt_nI _ _ hi, bt_nI _ _ hi, bt_nI _ _ hi, b_m1 i hi, anN_tb hw]
  simp
theorem anN_le (w H : Nat) : anN w H ≤ w := Nat.and_le_left
def sn (T : Nat → Nat) (S : Nat) : Nat := min (T (2 * S)) (T (2 * S + 1))
def mst (T : Nat → Nat) : Nat → Nat → Nat → Nat
  | 0, _, b => b
  | f + 1, h, b => mst T f (h + 1) (if sn T h < 100000 ∧ (pcf b < pcf h ∨ (pcf h = pcf b ∧ sn T h < sn T b)) then h else b)
theorem mst_s (T : Nat → Nat) (f h b : Nat) : mst T (f + 1) h b = mst T f (h + 1) (if sn T h < 100000 ∧ (pcf b < pcf h ∨ (pcf h = pcf b ∧ sn T h < sn T b)) then h else b) := rfl
def MS (n : Nat) (T : Nat → Nat) : Nat := mst T (2 ^ n - 1) 1 0
theorem mst_lt {T : Nat → Nat} {n : Nat} : ∀ f h b, h + f ≤ n → b < n → mst T f h b < n
  | 0, _, _, _, hb => hb
  | f + 1, h, b, hh, hb => by
    rw [mst_s]
    refine mst_lt f (h + 1) _ (by omega) ?_
    split <;> omega
theorem MS_lt (n : Nat) (T : Nat → Nat) : MS n T < 2 ^ n := by
  have := Nat.two_pow_pos n
  exact mst_lt _ _ _ (by omega) (by omega)
def hN (st : Nat → Int32) : Nat := (st 2).toNatClampNeg
def nowN (st : Nat → Int32) : Nat := (st 0).toNatClampNeg
def inN (st : Nat → Int32) : Nat := (st 1).toNatClampNeg
theorem Ws_n {st : Nat → Int32} {n D : Nat} (W : Ws st n D) (hn : n ≤ 8) (hD : D ≤ 480) : (st 0 = nI (nowN st) ∧ nowN st ≤ D) ∧ (st 1 = nI (inN st) ∧ inN st ≤ 1) ∧ (st 2 = nI (hN st) ∧ hN st < 2 ^ n) := by
  obtain ⟨⟨m, h1, h2⟩, h3, ⟨h, h4, h5⟩, _⟩ := W
  have := pn8 hn
  have e1 : nowN st = m := by unfold nowN; rw [h2, nI_clamp (by omega)]
  have e2 : hN st = h := by unfold hN; rw [h5, nI_clamp (by omega)]
  refine ⟨by rw [e1]; exact ⟨h2, h1⟩, ?_, by rw [e2]; exact ⟨h5, h4⟩⟩
  unfold inN
  rcases h3 with q | q <;> rw [q]
  · exact ⟨rfl, by decide⟩
  · exact ⟨rfl, by decide⟩
/-- the table from now on, of the shots w -/
def TT (P : pln) (st : Nat → Int32) (K : Nat → Bool) (E n mv w : Nat) : Nat → Nat := tFin n mv (bhk P st K E) (pls P) (opn P (hN st) (anN w (hN st)) 0) (nowN st) (inN st)
/-- cells that the reference's questions use -/
def rQ (a j : Nat) : Prop := (437 ≤ a ∧ a ≤ 442) ∨ a = 446 ∨ (a = 419 ∧ (j = 2 ∨ j = 30 ∨ (35 ≤ j ∧ j ≤ 46) ∨ j = 50))
def RU (s : sg) (P : pln) (st : Nat → Int32) (K : Nat → Bool) : Prop := (∀ f k, f ≤ 6 → k < 8 → s.1 (422 + f) k = P f k) ∧ (∀ j, j < 15 → s.1 435 j = st j) ∧ mSky s K
theorem RU_fr {P : pln} {st : Nat → Int32} {K : Nat → Bool} {s s' : sg} (h : RU s P st K) (f : Fr rQ s s') : RU s' P st K :=
  ⟨fun g k hg hk => (f.1 _ _ (by unfold rQ; omega)).trans (h.1 g k hg hk), fun j hj => (f.1 _ _ (by unfold rQ; omega)).trans (h.2.1 j hj), fun m hm => (f.1 _ _ (by unfold rQ; omega)).trans (h.2.2 m hm)⟩
section RM
variable {N : Nat} {s : sg} {P : pln} {st : Nat → Int32} {K : Nat → Bool} {E n D mv k m w : Nat} {T : Nat → Nat}
theorem r_soonOf {S : Nat} (hn : n ≤ 8) (hT : Trow s n T) (hle : ∀ j, T j ≤ 100000) (hS : S < 2 ^ n) : fX12_soonOf N 419 (nI S) (mk s) = some (.inl (nI (sn T S)), mk s) := by
  have hp8 := pn8 hn
  have hp1 := pn1 (n := n)
  have x1 : (2 : Int32) * nI S = nI (2 * S) := by rw [show (2 : Int32) = nI 2 from rfl, nI_mul]
  have y1 : inB (nI (2 * S)) 512 = true := inA_nI (by omega) (by omega)
  have y2 : inB (nI (2 * S + 1)) 512 = true := inA_nI (by omega) (by omega)
  have w1 := hle (2 * S)
  have w2 := hle (2 * S + 1)
  unfold fX12_soonOf bX12_soonOf_0
  simp (decide := true) only [Option.bind_some, cS_inl, cS_inr, gI_k, gR_k, pI_k, pR_k, cV_k, aI_k, tI_k, rZ_0, rZ_1, rZ_i, rf_12_0, rf_12_1, rf_12_3, rf_12_4, rf_12_5, rf_12_6, rf_12_7, rf_12_8, rf_12_9, rf_12_10, rf_12_11, rf_12_12, rf_12_13, rf_12_14, rf_12_15, rf_12_26, rf_12_27, rf_12_31, rf_12_32, rf_12_33, rf_12_34, rf_12_41, rf_12_44, rf_12_47, rf_12_48, rf_12_49, rf_12_51, rf_12_55, rf_12_56, rf_12_57, rf_12_58, rf_12_59, rf_12_60, Nat.reduceAdd, kc_419, kc_420, kc_421, kc_422, kc_423, kc_424, kc_425, kc_426, kc_427, kc_428, kc_429, kc_430, kc_431, kc_432, kc_433, kc_434, kc_435, kc_436, kc_437, kc_438, kc_439, kc_440, kc_441, kc_442, kc_443, kc_444, kc_445, kc_446, kc_447, kc_448, kc_449, kc_450, kc_451, kc_452, kc_453, kn_420, kn_421, kn_422, kn_423, kn_424, kn_425, kn_426, kn_427, kn_428, kn_429, kn_430, kn_431, kn_432, kn_433, kn_434, kn_435, kn_436, kn_437, kn_438, kn_439, kn_440, kn_441, kn_442, kn_443, kn_444, kn_445, kn_446, kn_447, kn_448, kn_449, kn_450, kn_451, kn_452, kn_453, x1, nI_1, y1, y2, nI_clamp (show 2 * S < 2 ^ 31 by omega), nI_clamp (show 2 * S + 1 < 2 ^ 31 by omega), hT (2 * S) (by omega), hT (2 * S + 1) (by omega)]
  rw [mn_nI (by omega) (by omega)]
  rfl
theorem r_all (W : Wp P n D mv) (h : RU s P st K) : fX12_all N 419 (mk s) = some (.inl (nI (2 ^ n - 1)), mk s) := by
  have e0 : s.1 422 0 = nI n := (h.1 0 0 (by omega) (by omega)).trans W.2.1
  unfold fX12_all bX12_all_0
  simp (decide := true) only [Option.bind_some, cS_inl, cS_inr, gI_k, gR_k, pI_k, pR_k, cV_k, aI_k, tI_k, rZ_0, rZ_1, rZ_i, rf_12_0, rf_12_1, rf_12_3, rf_12_4, rf_12_5, rf_12_6, rf_12_7, rf_12_8, rf_12_9, rf_12_10, rf_12_11, rf_12_12, rf_12_13, rf_12_14, rf_12_15, rf_12_26, rf_12_27, rf_12_31, rf_12_32, rf_12_33, rf_12_34, rf_12_41, rf_12_44, rf_12_47, rf_12_48, rf_12_49, rf_12_51, rf_12_55, rf_12_56, rf_12_57, rf_12_58, rf_12_59, rf_12_60, Nat.reduceAdd, kc_419, kc_420, kc_421, kc_422, kc_423, kc_424, kc_425, kc_426, kc_427, kc_428, kc_429, kc_430, kc_431, kc_432, kc_433, kc_434, kc_435, kc_436, kc_437, kc_438, kc_439, kc_440, kc_441, kc_442, kc_443, kc_444, kc_445, kc_446, kc_447, kc_448, kc_449, kc_450, kc_451, kc_452, kc_453, kn_420, kn_421, kn_422, kn_423, kn_424, kn_425, kn_426, kn_427, kn_428, kn_429, kn_430, kn_431, kn_432, kn_433, kn_434, kn_435, kn_436, kn_437, kn_438, kn_439, kn_440, kn_441, kn_442, kn_443, kn_444, kn_445, kn_446, kn_447, kn_448, kn_449, kn_450, kn_451, kn_452, kn_453, nc_0, e0, (shl_n n W.1).1]
  rw [show (1 : Int32) = nI 1 from rfl, nI_sub (Nat.two_pow_pos n)]
theorem TT_tab (W : Wp P n D mv) (hE : E ≤ 480) (Z : Ws st n D) (hnow : nowN st ≤ E) (w : Nat) : Tab n E mv (bhk P st K E) (pls P) (opn P (hN st) (anN w (hN st)) 0) (nowN st) (inN st) (TT P st K E n mv w) := tFin_tab (bhk_okB W hE _ _ _) (Ws_n Z W.1 W.2.2.2.1).2.1.2 hnow
theorem TT_le (W : Wp P n D mv) (hE : E ≤ 480) (Z : Ws st n D) (hnow : nowN st ≤ E) (w j : Nat) : TT P st K E n mv w j ≤ 100000 := by
  rcases (TT_tab (K := K) W hE Z hnow w).2.2.2.2 j with h | h <;> omega
theorem r_tellNow (hN0 : 1000 ≤ N) (W : Wp P n D mv) (Z : Ws st n D) (h : RV s P st K E) (hE : E ≤ 480) (hw : w < 256) : ∃ s', fX12_tellNow N 419 (nI w) (mk s) = some (.inl (), mk s') ∧ Trow s' n (TT P st K E n mv w) ∧ RV s' P st K E ∧ s'.1 419 42 = nI (anN w (hN st)) ∧ s'.1 419 43 = nI 0 ∧ s'.1 419 2 = s.1 419 2 ∧ Fr rQ s s' := by
  obtain ⟨⟨h0, h0'⟩, ⟨h1, h1'⟩, ⟨h2, h2'⟩⟩ := Ws_n Z W.1 W.2.2.2.1
  have e0 : s.1 435 0 = nI (nowN st) := (h.2.1 0 (by omega)).trans h0
  have e1 : s.1 435 1 = nI (inN st) := (h.2.1 1 (by omega)).trans h1
  have e2 : s.1 435 2 = nI (hN st) := (h.2.1 2 (by omega)).trans h2
  have hD := W.2.2.2.1
  unfold fX12_tellNow bX12_tellNow_0
  simp (decide := true) only [Option.bind_some, cS_inl, cS_inr, gI_k, gR_k, pI_k, pR_k, cV_k, aI_k, tI_k, rZ_0, rZ_1, rZ_i, rf_12_0, rf_12_1, rf_12_3, rf_12_4, rf_12_5, rf_12_6, rf_12_7, rf_12_8, rf_12_9, rf_12_10, rf_12_11, rf_12_12, rf_12_13, rf_12_14, rf_12_15, rf_12_26, rf_12_27, rf_12_31, rf_12_32, rf_12_33, rf_12_34, rf_12_41, rf_12_44, rf_12_47, rf_12_48, rf_12_49, rf_12_51, rf_12_55, rf_12_56, rf_12_57, rf_12_58, rf_12_59, rf_12_60, Nat.reduceAdd, kc_419, kc_420, kc_421, kc_422, kc_423, kc_424, kc_425, kc_426, kc_427, kc_428, kc_429, kc_430, kc_431, kc_432, kc_433, kc_434, kc_435, kc_436, kc_437, kc_438, kc_439, kc_440, kc_441, kc_442, kc_443, kc_444, kc_445, kc_446, kc_447, kc_448, kc_449, kc_450, kc_451, kc_452, kc_453, kn_420, kn_421, kn_422, kn_423, kn_424, kn_425, kn_426, kn_427, kn_428, kn_429, kn_430, kn_431, kn_432, kn_433, kn_434, kn_435, kn_436, kn_437, kn_438, kn_439, kn_440, kn_441, kn_442, kn_443, kn_444, kn_445, kn_446, kn_447, kn_448, kn_449, kn_450, kn_451, kn_452, kn_453, nc_0, nc_1, nc_2, sI_c, Nat.reduceEqDiff, false_and, if_false, e0, e1, e2, anN_i hw]
  have f0 : Fr rQ s (sI (sI s 419 42 (nI (anN w (hN st)))) 419 43 0) := Fr_t (Fr_sI (by unfold rQ; omega)) (Fr_sI (by unfold rQ; omega))
  have hV : RV (sI (sI s 419 42 (nI (anN w (hN st)))) 419 43 0) P st K E := RV_fr (Q := fun a j => a = 419 ∧ (j = 42 ∨ j = 43)) h (Fr_t (Fr_sI (by omega)) (Fr_sI (by omega))) (by intros; omega) (by intros; omega) (by omega)
  obtain ⟨s', a1, a2, a3⟩ := r_tellSoon (N := N) (al := anN w (hN st)) (fr := 0) hN0 W hE h2 (show nowN st ≤ 480 by omega) h1' hV (by simp [sI_c]) (by simp [sI_c, nI0])
  rw [a1]
  refine ⟨s', rfl, a2, RV_fr hV a3 (by intros; omega) (by intros; omega) (by omega), ?_, ?_, ?_, Fr_t f0 (Fr_m a3 (fun a j q => by unfold rQ; omega))⟩
  · rw [a3.1 _ _ (by omega)]; simp [sI_c]
  · rw [a3.1 _ _ (by omega)]; simp [sI_c, nI0]
  · rw [a3.1 _ _ (by omega)]; simp [sI_c]
theorem r_most4 (hN0 : 1000 ≤ N) (W : Wp P n D mv) (h : RU s P st K) (hT : Trow s n T) (hle : ∀ j, T j ≤ 100000) : ∀ (f b i : Nat), 2 ^ n - i < f → i ≤ 2 ^ n → 1 ≤ i → b < 2 ^ n → lX12_mostSet_4 N f 419 (nI b) (nI i) (mk s) = some (.inl (nI (mst T (2 ^ n - i) i b)), mk s) := by
  have hp8 := pn8 W.1
  have hsn : ∀ S, sn T S ≤ 100000 := fun S => Nat.le_trans (Nat.min_le_left _ _) (hle _)
  intro f
  induction f with
  | zero => intro b i hf; omega
  | succ f ih =>
    intro b i hf hi hi1 hb
    show bX12_mostSet_4 N (lX12_mostSet_4 N f) 419 (nI b) (nI i) (mk s) = _
    unfold bX12_mostSet_4
    simp (decide := true) only [Option.bind_some, cS_inl, cS_inr, gI_k, gR_k, pI_k, pR_k, cV_k, aI_k, tI_k, rZ_0, rZ_1, rZ_i, rf_12_0, rf_12_1, rf_12_3, rf_12_4, rf_12_5, rf_12_6, rf_12_7, rf_12_8, rf_12_9, rf_12_10, rf_12_11, rf_12_12, rf_12_13, rf_12_14, rf_12_15, rf_12_26, rf_12_27, rf_12_31, rf_12_32, rf_12_33, rf_12_34, rf_12_41, rf_12_44, rf_12_47, rf_12_48, rf_12_49, rf_12_51, rf_12_55, rf_12_56, rf_12_57, rf_12_58, rf_12_59, rf_12_60, Nat.reduceAdd, kc_419, kc_420, kc_421, kc_422, kc_423, kc_424, kc_425, kc_426, kc_427, kc_428, kc_429, kc_430, kc_431, kc_432, kc_433, kc_434, kc_435, kc_436, kc_437, kc_438, kc_439, kc_440, kc_441, kc_442, kc_443, kc_444, kc_445, kc_446, kc_447, kc_448, kc_449, kc_450, kc_451, kc_452, kc_453, kn_420, kn_421, kn_422, kn_423, kn_424, kn_425, kn_426, kn_427, kn_428, kn_429, kn_430, kn_431, kn_432, kn_433, kn_434, kn_435, kn_436, kn_437, kn_438, kn_439, kn_440, kn_441, kn_442, kn_443, kn_444, kn_445, kn_446, kn_447, kn_448, kn_449, kn_450, kn_451, kn_452, kn_453, r_all W h]
    by_cases c1 : 2 ^ n ≤ i
    · rw [if_pos (nI_lt (by omega) (by omega)), show 2 ^ n - i = 0 by omega]
      rfl
    · rw [if_neg (nI_nlt (by omega) (by omega))]
      simp (decide := true) only [Option.bind_some, cS_inl, cS_inr, gI_k, gR_k, pI_k, pR_k, cV_k, aI_k, tI_k, rZ_0, rZ_1, rZ_i, rf_12_0, rf_12_1, rf_12_3, rf_12_4, rf_12_5, rf_12_6, rf_12_7, rf_12_8, rf_12_9, rf_12_10, rf_12_11, rf_12_12, rf_12_13, rf_12_14, rf_12_15, rf_12_26, rf_12_27, rf_12_31, rf_12_32, rf_12_33, rf_12_34, rf_12_41, rf_12_44, rf_12_47, rf_12_48, rf_12_49, rf_12_51, rf_12_55, rf_12_56, rf_12_57, rf_12_58, rf_12_59, rf_12_60, Nat.reduceAdd, kc_419, kc_420, kc_421, kc_422, kc_423, kc_424, kc_425, kc_426, kc_427, kc_428, kc_429, kc_430, kc_431, kc_432, kc_433, kc_434, kc_435, kc_436, kc_437, kc_438, kc_439, kc_440, kc_441, kc_442, kc_443, kc_444, kc_445, kc_446, kc_447, kc_448, kc_449, kc_450, kc_451, kc_452, kc_453, kn_420, kn_421, kn_422, kn_423, kn_424, kn_425, kn_426, kn_427, kn_428, kn_429, kn_430, kn_431, kn_432, kn_433, kn_434, kn_435, kn_436, kn_437, kn_438, kn_439, kn_440, kn_441, kn_442, kn_443, kn_444, kn_445, kn_446, kn_447, kn_448, kn_449, kn_450, kn_451, kn_452, kn_453, r_soonOf W.1 hT hle (show i < 2 ^ n by omega), r_soonOf W.1 hT hle hb, m_bits hN0 (show i < 256 by omega), m_bits hN0 (show b < 256 by omega)]
      unfold bX12_mostSet_60 bX12_mostSet_62
      obtain ⟨g, hg⟩ : ∃ g, 2 ^ n - i = g + 1 := ⟨2 ^ n - i - 1, by omega⟩
      have p1 := pcf_8 i
      have p2 := pcf_8 b
      have q1 := hsn i
      have q2 := hsn b
      rw [nI_1, hg, mst_s, ih i (i + 1) (by omega) (by omega) (by omega) (by omega), ih b (i + 1) (by omega) (by omega) (by omega) hb, show 2 ^ n - (i + 1) = g by omega]
      by_cases c2 : sn T i < 100000
      · rw [if_pos (show nI (sn T i) < 100000 from nI_lt (b := 100000) c2 (by omega))]
        by_cases c3 : pcf b < pcf i
        · rw [if_pos (nI_lt c3 (by omega)), if_pos ⟨c2, Or.inl c3⟩]
        · rw [if_neg (nI_nlt (by omega) (by omega))]
          by_cases c4 : pcf i = pcf b
          · rw [if_neg (fun q => q (by rw [c4]))]
            by_cases c5 : sn T b ≤ sn T i
            · rw [if_pos (nI_le c5 (by omega)), if_neg (by omega)]
            · rw [if_neg (nI_ge (by omega) (by omega)), if_pos ⟨c2, Or.inr ⟨c4, by omega⟩⟩]
          · rw [if_pos (fun q => c4 ((nI_inj (by omega) (by omega)).mp q)), if_neg (by omega)]
      · rw [if_neg (show ¬ nI (sn T i) < 100000 from nI_nlt (b := 100000) (by omega) (by omega)), if_neg (by omega)]
theorem r_mostSet (hN0 : 1000 ≤ N) (W : Wp P n D mv) (h : RU s P st K) (hT : Trow s n T) (hle : ∀ j, T j ≤ 100000) : fX12_mostSet N 419 (mk s) = some (.inl (nI (MS n T)), mk s) := by
  have hp8 := pn8 W.1
  have hp := Nat.two_pow_pos n
  exact r_most4 hN0 W h hT hle N 0 1 (by omega) (by omega) (by omega) hp
theorem RV_U (h : RV s P st K E) : RU s P st K := ⟨h.1, h.2.1, h.2.2.1⟩
theorem r_mostOf (hN0 : 1000 ≤ N) (W : Wp P n D mv) (Z : Ws st n D) (h : RV s P st K E) (hE : E ≤ 480) (hnow : nowN st ≤ E) (hw : w < 256) : ∃ s', fX12_mostOf N 419 (nI w) (mk s) = some (.inl (nI (pcf (MS n (TT P st K E n mv w)))), mk s') ∧ RV s' P st K E ∧ s'.1 419 2 = s.1 419 2 ∧ Fr rQ s s' := by
  have hp8 := pn8 W.1
  obtain ⟨s', a1, a2, a3, a4, a5, a6, a7⟩ := r_tellNow (N := N) hN0 W Z h hE hw
  refine ⟨s', ?_, a3, a6, a7⟩
  have := MS_lt n (TT P st K E n mv w)
  unfold fX12_mostOf bX12_mostOf_0
  simp (decide := true) only [Option.bind_some, cS_inl, cS_inr, gI_k, gR_k, pI_k, pR_k, cV_k, aI_k, tI_k, rZ_0, rZ_1, rZ_i, rf_12_0, rf_12_1, rf_12_3, rf_12_4, rf_12_5, rf_12_6, rf_12_7, rf_12_8, rf_12_9, rf_12_10, rf_12_11, rf_12_12, rf_12_13, rf_12_14, rf_12_15, rf_12_26, rf_12_27, rf_12_31, rf_12_32, rf_12_33, rf_12_34, rf_12_41, rf_12_44, rf_12_47, rf_12_48, rf_12_49, rf_12_51, rf_12_55, rf_12_56, rf_12_57, rf_12_58, rf_12_59, rf_12_60, Nat.reduceAdd, kc_419, kc_420, kc_421, kc_422, kc_423, kc_424, kc_425, kc_426, kc_427, kc_428, kc_429, kc_430, kc_431, kc_432, kc_433, kc_434, kc_435, kc_436, kc_437, kc_438, kc_439, kc_440, kc_441, kc_442, kc_443, kc_444, kc_445, kc_446, kc_447, kc_448, kc_449, kc_450, kc_451, kc_452, kc_453, kn_420, kn_421, kn_422, kn_423, kn_424, kn_425, kn_426, kn_427, kn_428, kn_429, kn_430, kn_431, kn_432, kn_433, kn_434, kn_435, kn_436, kn_437, kn_438, kn_439, kn_440, kn_441, kn_442, kn_443, kn_444, kn_445, kn_446, kn_447, kn_448, kn_449, kn_450, kn_451, kn_452, kn_453, a1, r_mostSet hN0 W (RV_U a3) a2 (TT_le W hE Z hnow w), m_bits hN0 (show MS n (TT P st K E n mv w) < 256 by omega)]
/-- a call's first steps: no fault yet, the whole day -/
theorem r_begin (h : RU s P st K) (W : Wp P n D mv) : RV (sI (sI s 419 2 0) 419 30 (s.1 422 1)) P st K D ∧ (sI (sI s 419 2 0) 419 30 (s.1 422 1)).1 419 2 = 0 ∧ Fr rQ s (sI (sI s 419 2 0) 419 30 (s.1 422 1)) := by
  have f : Fr rQ s (sI (sI s 419 2 0) 419 30 (s.1 422 1)) := Fr_t (Fr_sI (by unfold rQ; omega)) (Fr_sI (by unfold rQ; omega))
  have h' := RU_fr h f
  refine ⟨⟨h'.1, h'.2.1, h'.2.2, ?_⟩, by simp [sI_c], f⟩
  rw [sI_1, if_pos ⟨rfl, rfl⟩]
  exact (h.1 0 1 (by omega) (by omega)).trans W.2.2.2.2.1
theorem r_bad1 : fX12_fail N 419 1 (mk (sI s 419 2 0)) = some (.inl 0, mk (sI (sI s 419 2 0) 419 2 1)) := m_fail N _ _
theorem r_badF : (sI (sI s 419 2 0) 419 2 1).1 419 2 = 1 ∧ Fr rQ s (sI (sI s 419 2 0) 419 2 1) := ⟨by simp [sI_c], Fr_t (Fr_sI (by unfold rQ; omega)) (Fr_sI (by unfold rQ; omega))⟩
/-- most -/
def aMost (P : pln) (st : Nat → Int32) (K : Nat → Bool) (n D mv w : Nat) : Int32 := if w = 0 then nI (pcf (MS n (TT P st K D n mv (2 ^ n - 1)))) else if w = 1 then nI (sn (TT P st K D n mv (2 ^ n - 1)) (MS n (TT P st K D n mv (2 ^ n - 1)))) else nI (MS n (TT P st K D n mv (2 ^ n - 1)))
theorem r_most (hN0 : 1000 ≤ N) (W : Wp P n D mv) (Z : Ws st n D) (h : RU s P st K) (hw : w ≤ 2) : ∃ s', fX12_most N 419 (nI w) (mk s) = some (.inl (aMost P st K n D mv w), mk s') ∧ s'.1 419 2 = 0 ∧ Fr rQ s s' := by
  have hp8 := pn8 W.1
  obtain ⟨b1, b2, b3⟩ := r_begin h W
  have hD := W.2.2.2.1
  have hnow := (Ws_n Z W.1 W.2.2.2.1).1.2
  obtain ⟨s', a1, a2, a3, a4, a5, a6, a7⟩ := r_tellNow (N := N) (w := 2 ^ n - 1) hN0 W Z b1 hD (by omega)
  refine ⟨s', ?_, a6.trans b2, Fr_t b3 a7⟩
  have hM := MS_lt n (TT P st K D n mv (2 ^ n - 1))
  have hin : sb (0 ≤ nI w ∧ nI w ≤ nI 2) = 1 := sb_pos ((in_rng (by omega)).mpr ⟨w, hw, rfl⟩)
  unfold fX12_most bX12_most_0
  simp (decide := true) only [Option.bind_some, cS_inl, cS_inr, gI_k, gR_k, pI_k, pR_k, cV_k, aI_k, tI_k, rZ_0, rZ_1, rZ_i, rf_12_0, rf_12_1, rf_12_3, rf_12_4, rf_12_5, rf_12_6, rf_12_7, rf_12_8, rf_12_9, rf_12_10, rf_12_11, rf_12_12, rf_12_13, rf_12_14, rf_12_15, rf_12_26, rf_12_27, rf_12_31, rf_12_32, rf_12_33, rf_12_34, rf_12_41, rf_12_44, rf_12_47, rf_12_48, rf_12_49, rf_12_51, rf_12_55, rf_12_56, rf_12_57, rf_12_58, rf_12_59, rf_12_60, Nat.reduceAdd, kc_419, kc_420, kc_421, kc_422, kc_423, kc_424, kc_425, kc_426, kc_427, kc_428, kc_429, kc_430, kc_431, kc_432, kc_433, kc_434, kc_435, kc_436, kc_437, kc_438, kc_439, kc_440, kc_441, kc_442, kc_443, kc_444, kc_445, kc_446, kc_447, kc_448, kc_449, kc_450, kc_451, kc_452, kc_453, kn_420, kn_421, kn_422, kn_423, kn_424, kn_425, kn_426, kn_427, kn_428, kn_429, kn_430, kn_431, kn_432, kn_433, kn_434, kn_435, kn_436, kn_437, kn_438, kn_439, kn_440, kn_441, kn_442, kn_443, kn_444, kn_445, kn_446, kn_447, kn_448, kn_449, kn_450, kn_451, kn_452, kn_453, m_isIn0 N _ (nI w) 2 2 rfl, hin, m_set]
  simp (decide := true) only [sI_c, Nat.reduceEqDiff, false_and, if_false]
  simp (decide := true) only [Option.bind_some, cS_inl, cS_inr, gI_k, gR_k, pI_k, pR_k, cV_k, aI_k, tI_k, rZ_0, rZ_1, rZ_i, rf_12_0, rf_12_1, rf_12_3, rf_12_4, rf_12_5, rf_12_6, rf_12_7, rf_12_8, rf_12_9, rf_12_10, rf_12_11, rf_12_12, rf_12_13, rf_12_14, rf_12_15, rf_12_26, rf_12_27, rf_12_31, rf_12_32, rf_12_33, rf_12_34, rf_12_41, rf_12_44, rf_12_47, rf_12_48, rf_12_49, rf_12_51, rf_12_55, rf_12_56, rf_12_57, rf_12_58, rf_12_59, rf_12_60, Nat.reduceAdd, kc_419, kc_420, kc_421, kc_422, kc_423, kc_424, kc_425, kc_426, kc_427, kc_428, kc_429, kc_430, kc_431, kc_432, kc_433, kc_434, kc_435, kc_436, kc_437, kc_438, kc_439, kc_440, kc_441, kc_442, kc_443, kc_444, kc_445, kc_446, kc_447, kc_448, kc_449, kc_450, kc_451, kc_452, kc_453, kn_420, kn_421, kn_422, kn_423, kn_424, kn_425, kn_426, kn_427, kn_428, kn_429, kn_430, kn_431, kn_432, kn_433, kn_434, kn_435, kn_436, kn_437, kn_438, kn_439, kn_440, kn_441, kn_442, kn_443, kn_444, kn_445, kn_446, kn_447, kn_448, kn_449, kn_450, kn_451, kn_452, kn_453, r_all W (RV_U b1), a1, r_mostSet hN0 W (RV_U a3) a2 (TT_le W hD Z hnow _), r_soonOf W.1 a2 (TT_le W hD Z hnow _) hM, m_bits hN0 (show MS n (TT P st K D n mv (2 ^ n - 1)) < 256 by omega)]
  unfold aMost
  rcases (show w = 0 ∨ w = 1 ∨ w = 2 by omega) with rfl | rfl | rfl <;> simp (decide := true)
theorem r_most_bad {x : Int32} (hx : ¬ ∃ w, w ≤ 2 ∧ x = nI w) : fX12_most N 419 x (mk s) = some (.inl 0, mk (sI (sI s 419 2 0) 419 2 1)) := by
  have hin : sb (0 ≤ x ∧ x ≤ nI 2) = 0 := sb_neg (fun q => hx ((in_rng (by omega)).mp q))
  unfold fX12_most bX12_most_0
  simp (decide := true) only [Option.bind_some, cS_inl, cS_inr, gI_k, gR_k, pI_k, pR_k, cV_k, aI_k, tI_k, rZ_0, rZ_1, rZ_i, rf_12_0, rf_12_1, rf_12_3, rf_12_4, rf_12_5, rf_12_6, rf_12_7, rf_12_8, rf_12_9, rf_12_10, rf_12_11, rf_12_12, rf_12_13, rf_12_14, rf_12_15, rf_12_26, rf_12_27, rf_12_31, rf_12_32, rf_12_33, rf_12_34, rf_12_41, rf_12_44, rf_12_47, rf_12_48, rf_12_49, rf_12_51, rf_12_55, rf_12_56, rf_12_57, rf_12_58, rf_12_59, rf_12_60, Nat.reduceAdd, kc_419, kc_420, kc_421, kc_422, kc_423, kc_424, kc_425, kc_426, kc_427, kc_428, kc_429, kc_430, kc_431, kc_432, kc_433, kc_434, kc_435, kc_436, kc_437, kc_438, kc_439, kc_440, kc_441, kc_442, kc_443, kc_444, kc_445, kc_446, kc_447, kc_448, kc_449, kc_450, kc_451, kc_452, kc_453, kn_420, kn_421, kn_422, kn_423, kn_424, kn_425, kn_426, kn_427, kn_428, kn_429, kn_430, kn_431, kn_432, kn_433, kn_434, kn_435, kn_436, kn_437, kn_438, kn_439, kn_440, kn_441, kn_442, kn_443, kn_444, kn_445, kn_446, kn_447, kn_448, kn_449, kn_450, kn_451, kn_452, kn_453, m_isIn0 N _ x 2 2 rfl, hin, r_bad1, if_false]
end RM
