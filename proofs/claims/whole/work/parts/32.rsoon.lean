/- needs: 31.spath 27.rview -/
/-! the reference's table of soonest ends -/
theorem sBit_nI {x j : Nat} (hj : j < 32) : sBit (nI x) (nI j) = x.testBit j := by
  unfold sBit
  have := bit_of (nI x) j hj
  rw [bt_nI _ _ hj] at this
  cases h : x.testBit j
  · rw [h] at this
    exact decide_eq_false (fun q => absurd (this.mp q) (by decide))
  · rw [h] at this
    exact decide_eq_true (this.mpr rfl)
def bhk (P : pln) (st : Nat → Int32) (K : Nat → Bool) (E k m : Nat) : Nat := bhd (fun t => sCan P st K E k t (ln P k)) (ln P k) (E - m) m
def pls (P : pln) (k : Nat) : Nat := if P 1 k = 2 then 1 else 0
def afb (P : pln) (k X : Nat) : Bool := decide (P 6 k = -1) || X.testBit (P 6 k).toNatClampNeg
def opn (P : pln) (H al fr k had : Nat) : Bool := al.testBit k && (!had.testBit k && afb P k ((H ||| had) ||| fr))
section RS
variable {P : pln} {st : Nat → Int32} {K : Nat → Bool} {E n D mv k m H al fr : Nat}
theorem can_in (W : Wp P n D mv) (hk : k < n) {t : Nat} (ht : t < 2 ^ 31) (h : sCan P st K E k t (ln P k) = true) : fm P k ≤ t ∧ t ≤ un P k ∧ t + ln P k ≤ E := by
  have hw := W.2.2.2.2.2.2.2 k hk
  unfold sCan sEn at h
  simp only [Bool.and_eq_true, decide_eq_true_eq] at h
  obtain ⟨⟨⟨h1, h2⟩, _⟩, h3, _⟩ := h
  rw [hw.2.2.1.1] at h1
  rw [hw.2.2.2.1.1] at h2
  refine ⟨Nat.le_of_not_lt fun q => nI_ge q ?_ h1, Nat.le_of_not_lt fun q => nI_ge q ht h2, h3⟩
  have := hw.2.2.1.2
  omega
theorem bhk_cases (W : Wp P n D mv) (hk : k < n) (hE : E ≤ 480) (m : Nat) : (∃ t, m ≤ t ∧ t + ln P k ≤ E ∧ sCan P st K E k t (ln P k) = true ∧ bhk P st K E k m = t + ln P k ∧ ∀ u, m ≤ u → u < t → sCan P st K E k u (ln P k) = false) ∨ (bhk P st K E k m = 100000 ∧ ∀ t, m ≤ t → t < E → sCan P st K E k t (ln P k) = false) := by
  rcases bhd_cases (fun t => sCan P st K E k t (ln P k)) (ln P k) (E - m) m with ⟨t, h1, h2, h3, h4, h5⟩ | ⟨h1, h2⟩
  · exact Or.inl ⟨t, h1, (can_in W hk (by omega) h3).2.2, h3, h4, h5⟩
  · exact Or.inr ⟨h1, fun t q1 q2 => h2 t q1 (by omega)⟩
theorem bhk_okB (W : Wp P n D mv) (hE : E ≤ 480) (H al fr : Nat) : okB n E mv (bhk P st K E) (pls P) (opn P H al fr) := by
  refine ⟨W.1, hE, W.2.2.2.2.2.1, ?_, ?_, ?_, ?_, ?_⟩
  · intro k m hk
    rcases bhk_cases (st := st) (K := K) W hk hE m with ⟨t, h1, h2, h3, h4, h5⟩ | ⟨h1, h2⟩
    · left; omega
    · right; exact h1
  · intro k m m' hk hm
    rcases bhk_cases (st := st) (K := K) W hk hE m with ⟨t, h1, h2, h3, h4, h5⟩ | ⟨h1, h2⟩
    · rcases bhk_cases (st := st) (K := K) W hk hE m' with ⟨t', g1, g2, g3, g4, g5⟩ | ⟨g1, g2⟩
      · have : t ≤ t' := Nat.le_of_not_lt fun q => by
          have := h5 t' (by omega) q
          rw [g3] at this
          cases this
        omega
      · omega
    · rcases bhk_cases (st := st) (K := K) W hk hE m' with ⟨t', g1, g2, g3, g4, g5⟩ | ⟨g1, g2⟩
      · have hl := (W.2.2.2.2.2.2.2 k hk).2.1.2.1
        have := h2 t' (by omega) (by omega)
        rw [g3] at this
        cases this
      · omega
  · intro k m hk hr
    have hl := (W.2.2.2.2.2.2.2 k hk).2.1.2.1
    rcases bhk_cases (st := st) (K := K) W hk hE m with ⟨t, h1, h2, h3, h4, h5⟩ | ⟨h1, h2⟩
    · omega
    · omega
  · intro k
    unfold pls
    split <;> omega
  · intro k h ho
    unfold opn at ho
    simp only [Bool.and_eq_true, Bool.not_eq_true'] at ho
    exact ho.2.1
variable {N : Nat} {s : sg}
theorem r_isOpen (W : Wp P n D mv) (h : RV s P st K E) (hk : k < n) (hH : st 2 = nI H) (ha : s.1 419 42 = nI al) (hf : s.1 419 43 = nI fr) (had : Nat) : fX12_isOpen N 419 (nI k) (nI had) (mk s) = some (.inl (sk_i (opn P H al fr k had)), mk s) := by
  have hk8 : k < 8 := by have := W.1; omega
  have ik : inB (nI k) 16 = true := inA_nI (by omega) (by omega)
  have e2 : s.1 435 2 = nI H := (h.2.1 2 (by omega)).trans hH
  have e6 : s.1 428 k = P 6 k := h.1 6 k (by omega) hk8
  have hor : ∀ a b : Nat, nI a ||| nI b = nI (a ||| b) := fun a b => b_ext fun i hi => by rw [b_or, bt_nI _ _ hi, bt_nI _ _ hi, bt_nI _ _ hi, Nat.testBit_or]
  unfold fX12_isOpen bX12_isOpen_0 bX12_isOpen_54
  simp (decide := true) only [Option.bind_some, cS_inl, cS_inr, gI_k, gR_k, pI_k, pR_k, cV_k, aI_k, tI_k, rZ_0, rZ_1, rZ_i, rf_12_0, rf_12_1, rf_12_3, rf_12_4, rf_12_5, rf_12_6, rf_12_7, rf_12_8, rf_12_9, rf_12_10, rf_12_11, rf_12_12, rf_12_13, rf_12_14, rf_12_15, rf_12_26, rf_12_27, rf_12_31, rf_12_32, rf_12_33, rf_12_34, rf_12_41, rf_12_44, rf_12_47, rf_12_48, rf_12_49, rf_12_51, rf_12_55, rf_12_56, rf_12_57, rf_12_58, rf_12_59, rf_12_60, Nat.reduceAdd, kc_419, kc_420, kc_421, kc_422, kc_423, kc_424, kc_425, kc_426, kc_427, kc_428, kc_429, kc_430, kc_431, kc_432, kc_433, kc_434, kc_435, kc_436, kc_437, kc_438, kc_439, kc_440, kc_441, kc_442, kc_443, kc_444, kc_445, kc_446, kc_447, kc_448, kc_449, kc_450, kc_451, kc_452, kc_453, kn_420, kn_421, kn_422, kn_423, kn_424, kn_425, kn_426, kn_427, kn_428, kn_429, kn_430, kn_431, kn_432, kn_433, kn_434, kn_435, kn_436, kn_437, kn_438, kn_439, kn_440, kn_441, kn_442, kn_443, kn_444, kn_445, kn_446, kn_447, kn_448, kn_449, kn_450, kn_451, kn_452, kn_453, m_isOf, ha, hf, sb_eq0, ik, nI_clamp (show k < 2 ^ 31 by omega), e6, nc_2, e2, hor]
  have hb : ∀ x : Nat, ((nI x >>> (nI k &&& 31)) &&& 1 = 1) ↔ x.testBit k = true := fun x => by rw [bit_of _ _ (by omega), bt_nI _ _ (by omega)]
  simp only [hb]
  unfold opn afb
  cases h1 : al.testBit k
  · simp [sk_i]
  · cases h2 : had.testBit k
    · rcases (W.2.2.2.2.2.2.2 k hk).2.2.2.2 with h3 | ⟨j, hj, h3⟩
      · simp [h3, sk_i]
      · have hne : ¬ nI j = -1 := fun q => by
          have := congrArg Int32.toInt q
          rw [nI_toInt (by omega)] at this
          have e : (-1 : Int32).toInt = -1 := by decide
          omega
        have hb2 : ∀ x : Nat, ((nI x >>> (nI j &&& 31)) &&& 1 = 1) ↔ x.testBit j = true := fun x => by rw [bit_of _ _ (by omega), bt_nI _ _ (by omega)]
        simp only [h3, hne, if_false, hb2, nI_clamp (show j < 2 ^ 31 by omega)]
        cases ((H ||| had) ||| fr).testBit j <;> simp [sk_i, hne]
    · simp [sk_i]
theorem r_behind11 (hN : 1000 ≤ N) (W : Wp P n D mv) (h : RV s P st K E) (hE : E ≤ 480) (hk : k < n) : ∀ (f t : Nat), E - t < f → t ≤ 300000 → lX12_behind_11 N f 419 (nI k) (nI t) (mk s) = some (.inl (nI (bhk P st K E k t)), mk s) := by
  have hk8 : k < 8 := by have := W.1; omega
  have hw := W.2.2.2.2.2.2.2 k hk
  have ik : inB (nI k) 16 = true := inA_nI (by omega) (by omega)
  have e5 : s.1 427 k = nI (un P k) := (h.1 5 k (by omega) hk8).trans hw.2.2.2.1.1
  have e3 : s.1 425 k = nI (ln P k) := (h.1 3 k (by omega) hk8).trans hw.2.1.1
  have hu := hw.2.2.2.1.2
  intro f
  induction f with
  | zero => intro t hf; omega
  | succ f ih =>
    intro t hf ht
    show bX12_behind_11 N (lX12_behind_11 N f) 419 (nI k) (nI t) (mk s) = _
    unfold bX12_behind_11 bX12_behind_53 bX12_behind_38
    simp (decide := true) only [Option.bind_some, cS_inl, cS_inr, gI_k, gR_k, pI_k, pR_k, cV_k, aI_k, tI_k, rZ_0, rZ_1, rZ_i, rf_12_0, rf_12_1, rf_12_3, rf_12_4, rf_12_5, rf_12_6, rf_12_7, rf_12_8, rf_12_9, rf_12_10, rf_12_11, rf_12_12, rf_12_13, rf_12_14, rf_12_15, rf_12_26, rf_12_27, rf_12_31, rf_12_32, rf_12_33, rf_12_34, rf_12_41, rf_12_44, rf_12_47, rf_12_48, rf_12_49, rf_12_51, rf_12_55, rf_12_56, rf_12_57, rf_12_58, rf_12_59, rf_12_60, Nat.reduceAdd, kc_419, kc_420, kc_421, kc_422, kc_423, kc_424, kc_425, kc_426, kc_427, kc_428, kc_429, kc_430, kc_431, kc_432, kc_433, kc_434, kc_435, kc_436, kc_437, kc_438, kc_439, kc_440, kc_441, kc_442, kc_443, kc_444, kc_445, kc_446, kc_447, kc_448, kc_449, kc_450, kc_451, kc_452, kc_453, kn_420, kn_421, kn_422, kn_423, kn_424, kn_425, kn_426, kn_427, kn_428, kn_429, kn_430, kn_431, kn_432, kn_433, kn_434, kn_435, kn_436, kn_437, kn_438, kn_439, kn_440, kn_441, kn_442, kn_443, kn_444, kn_445, kn_446, kn_447, kn_448, kn_449, kn_450, kn_451, kn_452, kn_453, ik, nI_clamp (show k < 2 ^ 31 by omega), e5, e3, h.2.2.2]
    by_cases c1 : un P k < t
    · rw [if_pos (nI_lt c1 (by omega))]
      unfold bhk
      rw [bhd_none (fun u q1 q2 => by
        cases hc : sCan P st K E k u (ln P k)
        · rfl
        · have := can_in W hk (by omega) hc; omega)]
      rfl
    · rw [if_neg (nI_nlt (by omega) (by omega))]
      by_cases c2 : E ≤ t
      · rw [if_pos (nI_le c2 (by omega))]
        unfold bhk
        rw [show E - t = 0 by omega]
        rfl
      · rw [if_neg (nI_ge (by omega) (by omega))]
        simp (decide := true) only [Option.bind_some, cS_inl, cS_inr, gI_k, gR_k, pI_k, pR_k, cV_k, aI_k, tI_k, rZ_0, rZ_1, rZ_i, rf_12_0, rf_12_1, rf_12_3, rf_12_4, rf_12_5, rf_12_6, rf_12_7, rf_12_8, rf_12_9, rf_12_10, rf_12_11, rf_12_12, rf_12_13, rf_12_14, rf_12_15, rf_12_26, rf_12_27, rf_12_31, rf_12_32, rf_12_33, rf_12_34, rf_12_41, rf_12_44, rf_12_47, rf_12_48, rf_12_49, rf_12_51, rf_12_55, rf_12_56, rf_12_57, rf_12_58, rf_12_59, rf_12_60, Nat.reduceAdd, kc_419, kc_420, kc_421, kc_422, kc_423, kc_424, kc_425, kc_426, kc_427, kc_428, kc_429, kc_430, kc_431, kc_432, kc_433, kc_434, kc_435, kc_436, kc_437, kc_438, kc_439, kc_440, kc_441, kc_442, kc_443, kc_444, kc_445, kc_446, kc_447, kc_448, kc_449, kc_450, kc_451, kc_452, kc_453, kn_420, kn_421, kn_422, kn_423, kn_424, kn_425, kn_426, kn_427, kn_428, kn_429, kn_430, kn_431, kn_432, kn_433, kn_434, kn_435, kn_436, kn_437, kn_438, kn_439, kn_440, kn_441, kn_442, kn_443, kn_444, kn_445, kn_446, kn_447, kn_448, kn_449, kn_450, kn_451, kn_452, kn_453, r_can hN W h hE hk (show t < 480 by omega), sk_0, nI_1, nI_add]
        unfold bhk
        obtain ⟨g, hg⟩ : ∃ g, E - t = g + 1 := ⟨E - t - 1, by omega⟩
        rw [hg, bhd_s]
        cases hc : sCan P st K E k t (ln P k)
        · rw [if_pos rfl, ih (t + 1) (by omega) (by omega)]
          unfold bhk
          rw [show E - (t + 1) = g by omega]
          simp
        · rw [if_neg (by decide)]
          simp (decide := true) only [Option.bind_some, cS_inl, cS_inr, gI_k, gR_k, pI_k, pR_k, cV_k, aI_k, tI_k, rZ_0, rZ_1, rZ_i, rf_12_0, rf_12_1, rf_12_3, rf_12_4, rf_12_5, rf_12_6, rf_12_7, rf_12_8, rf_12_9, rf_12_10, rf_12_11, rf_12_12, rf_12_13, rf_12_14, rf_12_15, rf_12_26, rf_12_27, rf_12_31, rf_12_32, rf_12_33, rf_12_34, rf_12_41, rf_12_44, rf_12_47, rf_12_48, rf_12_49, rf_12_51, rf_12_55, rf_12_56, rf_12_57, rf_12_58, rf_12_59, rf_12_60, Nat.reduceAdd, kc_419, kc_420, kc_421, kc_422, kc_423, kc_424, kc_425, kc_426, kc_427, kc_428, kc_429, kc_430, kc_431, kc_432, kc_433, kc_434, kc_435, kc_436, kc_437, kc_438, kc_439, kc_440, kc_441, kc_442, kc_443, kc_444, kc_445, kc_446, kc_447, kc_448, kc_449, kc_450, kc_451, kc_452, kc_453, kn_420, kn_421, kn_422, kn_423, kn_424, kn_425, kn_426, kn_427, kn_428, kn_429, kn_430, kn_431, kn_432, kn_433, kn_434, kn_435, kn_436, kn_437, kn_438, kn_439, kn_440, kn_441, kn_442, kn_443, kn_444, kn_445, kn_446, kn_447, kn_448, kn_449, kn_450, kn_451, kn_452, kn_453, ik, nI_clamp (show k < 2 ^ 31 by omega), e3, nI_add, if_true]
theorem r_behind (hN : 1000 ≤ N) (W : Wp P n D mv) (h : RV s P st K E) (hE : E ≤ 480) (hk : k < n) (hm : m ≤ 200000) : fX12_behind N 419 (nI k) (nI m) (mk s) = some (.inl (nI (bhk P st K E k m)), mk s) := by
  have hk8 : k < 8 := by have := W.1; omega
  have hw := W.2.2.2.2.2.2.2 k hk
  have ik : inB (nI k) 16 = true := inA_nI (by omega) (by omega)
  have e4 : s.1 426 k = nI (fm P k) := (h.1 4 k (by omega) hk8).trans hw.2.2.1.1
  have hu := hw.2.2.1.2
  unfold fX12_behind bX12_behind_0
  simp (decide := true) only [Option.bind_some, cS_inl, cS_inr, gI_k, gR_k, pI_k, pR_k, cV_k, aI_k, tI_k, rZ_0, rZ_1, rZ_i, rf_12_0, rf_12_1, rf_12_3, rf_12_4, rf_12_5, rf_12_6, rf_12_7, rf_12_8, rf_12_9, rf_12_10, rf_12_11, rf_12_12, rf_12_13, rf_12_14, rf_12_15, rf_12_26, rf_12_27, rf_12_31, rf_12_32, rf_12_33, rf_12_34, rf_12_41, rf_12_44, rf_12_47, rf_12_48, rf_12_49, rf_12_51, rf_12_55, rf_12_56, rf_12_57, rf_12_58, rf_12_59, rf_12_60, Nat.reduceAdd, kc_419, kc_420, kc_421, kc_422, kc_423, kc_424, kc_425, kc_426, kc_427, kc_428, kc_429, kc_430, kc_431, kc_432, kc_433, kc_434, kc_435, kc_436, kc_437, kc_438, kc_439, kc_440, kc_441, kc_442, kc_443, kc_444, kc_445, kc_446, kc_447, kc_448, kc_449, kc_450, kc_451, kc_452, kc_453, kn_420, kn_421, kn_422, kn_423, kn_424, kn_425, kn_426, kn_427, kn_428, kn_429, kn_430, kn_431, kn_432, kn_433, kn_434, kn_435, kn_436, kn_437, kn_438, kn_439, kn_440, kn_441, kn_442, kn_443, kn_444, kn_445, kn_446, kn_447, kn_448, kn_449, kn_450, kn_451, kn_452, kn_453, ik, nI_clamp (show k < 2 ^ 31 by omega), e4]
  rw [mx_nI (by omega) (by omega), r_behind11 hN W h hE hk N (max m (fm P k)) (by omega) (by omega)]
  congr 3
  by_cases c : fm P k ≤ m
  · rw [Nat.max_eq_left c]
  · rw [Nat.max_eq_right (by omega)]
    have hlow : ∀ u, m ≤ u → u < fm P k → sCan P st K E k u (ln P k) = false := fun u q1 q2 => by
      cases hc : sCan P st K E k u (ln P k)
      · rfl
      · have := can_in W hk (by omega) hc; omega
    by_cases c2 : fm P k ≤ E
    · unfold bhk
      rw [show E - m = (E - fm P k) + (fm P k - m) by omega, bhd_skip _ _ (fm P k - m) (E - fm P k) m (fun u q1 q2 => hlow u q1 (by omega)), show m + (fm P k - m) = fm P k by omega]
    · unfold bhk
      rw [bhd_none (fun u q1 q2 => hlow u q1 (by omega)), show E - fm P k = 0 by omega]
      rfl
/-- the table in its row -/
def Trow (s : sg) (n : Nat) (T : Nat → Nat) : Prop := ∀ j, j < 2 ^ (n + 1) → s.1 441 j = nI (T j)
theorem pn1 {n : Nat} : 2 ^ (n + 1) = 2 * 2 ^ n := by rw [Nat.pow_succ]; omega
theorem pn8 {n : Nat} (h : n ≤ 8) : 2 ^ n ≤ 256 := Nat.le_trans (Nat.pow_le_pow_right (show 0 < 2 by omega) h) (by decide)
theorem shl_n : ∀ n, n ≤ 8 → (1 : Int32) <<< (nI n &&& 31) = nI (2 ^ n) ∧ (2 : Int32) <<< (nI n &&& 31) = nI (2 ^ (n + 1)) := by decide +kernel
theorem r_soon52 (hN : 1000 ≤ N) (W : Wp P n D mv) (hE : E ≤ 480) (hH : st 2 = nI H) {k37 : Nat → Int32 → mm_C → mR Unit} {h : Nat} (hh : h < 2 ^ n) : ∀ (f k : Nat) (s : sg) (T : Nat → Nat), n - k < f → k ≤ n → RV s P st K E → s.1 419 42 = nI al → s.1 419 43 = nI fr → Trow s n T → (∀ j, T j ≤ 100000) → ∃ s', lX12_tellSoon_52 N k37 f 419 (nI h) (nI k) (mk s) = k37 419 (nI (h + 1)) (mk s') ∧ Trow s' n (tRw mv (bhk P st K E) (pls P) (opn P H al fr) h (n - k) k T) ∧ (∀ j, tRw mv (bhk P st K E) (pls P) (opn P H al fr) h (n - k) k T j ≤ 100000) ∧ Fr (fun a _ => a = 441) s s' := by
  have hn8 := W.1
  have hmv := W.2.2.2.2.2.1
  have hp8 := pn8 hn8
  have hp1 := pn1 (n := n)
  intro f
  induction f with
  | zero => intro k s T hf; omega
  | succ f ih =>
    intro k s T hf hk hV ha hfr hT hle
    show ∃ s', bX12_tellSoon_52 N k37 (lX12_tellSoon_52 N k37 f) 419 (nI h) (nI k) (mk s) = _ ∧ _
    unfold bX12_tellSoon_52
    have e0 : s.1 422 0 = nI n := (hV.1 0 0 (by omega) (by omega)).trans W.2.1
    simp (decide := true) only [Option.bind_some, cS_inl, cS_inr, gI_k, gR_k, pI_k, pR_k, cV_k, aI_k, tI_k, rZ_0, rZ_1, rZ_i, rf_12_0, rf_12_1, rf_12_3, rf_12_4, rf_12_5, rf_12_6, rf_12_7, rf_12_8, rf_12_9, rf_12_10, rf_12_11, rf_12_12, rf_12_13, rf_12_14, rf_12_15, rf_12_26, rf_12_27, rf_12_31, rf_12_32, rf_12_33, rf_12_34, rf_12_41, rf_12_44, rf_12_47, rf_12_48, rf_12_49, rf_12_51, rf_12_55, rf_12_56, rf_12_57, rf_12_58, rf_12_59, rf_12_60, Nat.reduceAdd, kc_419, kc_420, kc_421, kc_422, kc_423, kc_424, kc_425, kc_426, kc_427, kc_428, kc_429, kc_430, kc_431, kc_432, kc_433, kc_434, kc_435, kc_436, kc_437, kc_438, kc_439, kc_440, kc_441, kc_442, kc_443, kc_444, kc_445, kc_446, kc_447, kc_448, kc_449, kc_450, kc_451, kc_452, kc_453, kn_420, kn_421, kn_422, kn_423, kn_424, kn_425, kn_426, kn_427, kn_428, kn_429, kn_430, kn_431, kn_432, kn_433, kn_434, kn_435, kn_436, kn_437, kn_438, kn_439, kn_440, kn_441, kn_442, kn_443, kn_444, kn_445, kn_446, kn_447, kn_448, kn_449, kn_450, kn_451, kn_452, kn_453, nc_0, e0]
    by_cases c1 : n ≤ k
    · rw [if_pos (nI_le c1 (by omega))]
      unfold bX12_tellSoon_174
      rw [nI_1]
      refine ⟨s, rfl, ?_, ?_, Fr_r _ _⟩
      · rw [show n - k = 0 by omega]; exact hT
      · rw [show n - k = 0 by omega]; exact hle
    · rw [if_neg (nI_ge (by omega) (by omega))]
      have hkn : k < n := by omega
      obtain ⟨g, hg⟩ : ∃ g, n - k = g + 1 := ⟨n - k - 1, by omega⟩
      have ik : inB (nI k) 16 = true := inA_nI (by omega) (by omega)
      have e1 : s.1 423 k = P 1 k := hV.1 1 k (by omega) (by omega)
      have e2 : s.1 422 2 = nI mv := (hV.1 0 2 (by omega) (by omega)).trans W.2.2.2.2.2.2.1
      simp (decide := true) only [Option.bind_some, cS_inl, cS_inr, gI_k, gR_k, pI_k, pR_k, cV_k, aI_k, tI_k, rZ_0, rZ_1, rZ_i, rf_12_0, rf_12_1, rf_12_3, rf_12_4, rf_12_5, rf_12_6, rf_12_7, rf_12_8, rf_12_9, rf_12_10, rf_12_11, rf_12_12, rf_12_13, rf_12_14, rf_12_15, rf_12_26, rf_12_27, rf_12_31, rf_12_32, rf_12_33, rf_12_34, rf_12_41, rf_12_44, rf_12_47, rf_12_48, rf_12_49, rf_12_51, rf_12_55, rf_12_56, rf_12_57, rf_12_58, rf_12_59, rf_12_60, Nat.reduceAdd, kc_419, kc_420, kc_421, kc_422, kc_423, kc_424, kc_425, kc_426, kc_427, kc_428, kc_429, kc_430, kc_431, kc_432, kc_433, kc_434, kc_435, kc_436, kc_437, kc_438, kc_439, kc_440, kc_441, kc_442, kc_443, kc_444, kc_445, kc_446, kc_447, kc_448, kc_449, kc_450, kc_451, kc_452, kc_453, kn_420, kn_421, kn_422, kn_423, kn_424, kn_425, kn_426, kn_427, kn_428, kn_429, kn_430, kn_431, kn_432, kn_433, kn_434, kn_435, kn_436, kn_437, kn_438, kn_439, kn_440, kn_441, kn_442, kn_443, kn_444, kn_445, kn_446, kn_447, kn_448, kn_449, kn_450, kn_451, kn_452, kn_453, r_isOpen W hV hkn hH ha hfr h, sk_0, ik, nI_clamp (show k < 2 ^ 31 by omega), e1]
      have nxt : ∀ s2 T2, RV s2 P st K E → s2.1 419 42 = nI al → s2.1 419 43 = nI fr → Trow s2 n T2 → (∀ j, T2 j ≤ 100000) → T2 = tSt mv (bhk P st K E) (pls P) (opn P H al fr) h k T → Fr (fun a _ => a = 441) s s2 → ∃ s', bX12_tellSoon_168 N k37 (lX12_tellSoon_52 N k37 f) 419 (nI h) (nI k) (mk s2) = k37 419 (nI (h + 1)) (mk s') ∧ Trow s' n (tRw mv (bhk P st K E) (pls P) (opn P H al fr) h (n - k) k T) ∧ (∀ j, tRw mv (bhk P st K E) (pls P) (opn P H al fr) h (n - k) k T j ≤ 100000) ∧ Fr (fun a _ => a = 441) s s' := by
        intro s2 T2 a1 a2 a3 a4 a5 a6 a7
        unfold bX12_tellSoon_168
        rw [nI_1]
        obtain ⟨s', b1, b2, b3, b4⟩ := ih (k + 1) s2 T2 (by omega) (by omega) a1 a2 a3 a4 a5
        rw [a6, show n - (k + 1) = g by omega] at b2 b3
        refine ⟨s', b1, ?_, ?_, Fr_t a7 b4⟩
        · rw [hg]; exact b2
        · rw [hg]; exact b3
      cases ho : opn P H al fr k h
      · simp only [Bool.false_eq_true, not_true, if_false, if_true]
        refine nxt s T hV ha hfr hT hle ?_ (Fr_r _ _)
        unfold tSt
        rw [ho]
        rfl
      · simp only [Bool.true_eq_false, not_false_eq_true, if_true]
        have key : ∀ s0 : Int32, s0 = nI (pls P k) → ∃ s', bX12_tellSoon_92 N k37 (lX12_tellSoon_52 N k37 f) 419 (nI h) (nI k) s0 (mk s) = k37 419 (nI (h + 1)) (mk s') ∧ Trow s' n (tRw mv (bhk P st K E) (pls P) (opn P H al fr) h (n - k) k T) ∧ (∀ j, tRw mv (bhk P st K E) (pls P) (opn P H al fr) h (n - k) k T j ≤ 100000) ∧ Fr (fun a _ => a = 441) s s' := by
          intro s0 hs0
          subst hs0
          have hpl : pls P k ≤ 1 := (bhk_okB (st := st) (K := K) W hE H al fr).2.2.2.2.2.2.1 k
          have hto : h ||| 2 ^ k < 2 ^ n := Nat.or_lt_two_pow hh (Nat.pow_lt_pow_right (by omega) hkn)
          have x1 : (2 : Int32) * nI h + nI (pls P k) = nI (2 * h + pls P k) := by rw [show (2 : Int32) = nI 2 from rfl, nI_mul, nI_add]
          have x2 : (2 : Int32) * nI h + 1 - nI (pls P k) = nI (2 * h + (1 - pls P k)) := by
            rw [show (2 : Int32) = nI 2 from rfl, nI_mul, nI_1, nI_sub (by omega)]
            congr 1
            omega
          have x3 : (2 : Int32) * (nI h ||| ((1 : Int32) <<< (nI k &&& 31))) + nI (pls P k) = nI (2 * (h ||| 2 ^ k) + pls P k) := by rw [or_bit _ _ (by omega), show (2 : Int32) = nI 2 from rfl, nI_mul, nI_add]
          have y1 : inB (nI (2 * h + pls P k)) 512 = true := inA_nI (by omega) (by omega)
          have y2 : inB (nI (2 * h + (1 - pls P k))) 512 = true := inA_nI (by omega) (by omega)
          have y3 : inB (nI (2 * (h ||| 2 ^ k) + pls P k)) 512 = true := inA_nI (by omega) (by omega)
          have z1 := hT (2 * h + pls P k) (by omega)
          have z2 := hT (2 * h + (1 - pls P k)) (by omega)
          have z3 := hT (2 * (h ||| 2 ^ k) + pls P k) (by omega)
          have w1 := hle (2 * h + pls P k)
          have w2 := hle (2 * h + (1 - pls P k))
          have w3 := hle (2 * (h ||| 2 ^ k) + pls P k)
          unfold bX12_tellSoon_92
          simp (decide := true) only [Option.bind_some, cS_inl, cS_inr, gI_k, gR_k, pI_k, pR_k, cV_k, aI_k, tI_k, rZ_0, rZ_1, rZ_i, rf_12_0, rf_12_1, rf_12_3, rf_12_4, rf_12_5, rf_12_6, rf_12_7, rf_12_8, rf_12_9, rf_12_10, rf_12_11, rf_12_12, rf_12_13, rf_12_14, rf_12_15, rf_12_26, rf_12_27, rf_12_31, rf_12_32, rf_12_33, rf_12_34, rf_12_41, rf_12_44, rf_12_47, rf_12_48, rf_12_49, rf_12_51, rf_12_55, rf_12_56, rf_12_57, rf_12_58, rf_12_59, rf_12_60, Nat.reduceAdd, kc_419, kc_420, kc_421, kc_422, kc_423, kc_424, kc_425, kc_426, kc_427, kc_428, kc_429, kc_430, kc_431, kc_432, kc_433, kc_434, kc_435, kc_436, kc_437, kc_438, kc_439, kc_440, kc_441, kc_442, kc_443, kc_444, kc_445, kc_446, kc_447, kc_448, kc_449, kc_450, kc_451, kc_452, kc_453, kn_420, kn_421, kn_422, kn_423, kn_424, kn_425, kn_426, kn_427, kn_428, kn_429, kn_430, kn_431, kn_432, kn_433, kn_434, kn_435, kn_436, kn_437, kn_438, kn_439, kn_440, kn_441, kn_442, kn_443, kn_444, kn_445, kn_446, kn_447, kn_448, kn_449, kn_450, kn_451, kn_452, kn_453, x1, x2, x3, y1, y2, y3, nc_2, e2, nI_clamp (show 2 * h + pls P k < 2 ^ 31 by omega), nI_clamp (show 2 * h + (1 - pls P k) < 2 ^ 31 by omega), nI_clamp (show 2 * (h ||| 2 ^ k) + pls P k < 2 ^ 31 by omega), z1, z2, z3, nI_add]
          rw [mn_nI (by omega) (by omega), r_behind hN W hV hE hkn (by omega)]
          have hbb := (bhk_okB (st := st) (K := K) W hE H al fr).2.2.2.1 k (min (T (2 * h + pls P k)) (T (2 * h + (1 - pls P k)) + mv)) hkn
          simp (decide := true) only [Option.bind_some, cS_inl, cS_inr, gI_k, gR_k, pI_k, pR_k, cV_k, aI_k, tI_k, rZ_0, rZ_1, rZ_i, rf_12_0, rf_12_1, rf_12_3, rf_12_4, rf_12_5, rf_12_6, rf_12_7, rf_12_8, rf_12_9, rf_12_10, rf_12_11, rf_12_12, rf_12_13, rf_12_14, rf_12_15, rf_12_26, rf_12_27, rf_12_31, rf_12_32, rf_12_33, rf_12_34, rf_12_41, rf_12_44, rf_12_47, rf_12_48, rf_12_49, rf_12_51, rf_12_55, rf_12_56, rf_12_57, rf_12_58, rf_12_59, rf_12_60, Nat.reduceAdd, kc_419, kc_420, kc_421, kc_422, kc_423, kc_424, kc_425, kc_426, kc_427, kc_428, kc_429, kc_430, kc_431, kc_432, kc_433, kc_434, kc_435, kc_436, kc_437, kc_438, kc_439, kc_440, kc_441, kc_442, kc_443, kc_444, kc_445, kc_446, kc_447, kc_448, kc_449, kc_450, kc_451, kc_452, kc_453, kn_420, kn_421, kn_422, kn_423, kn_424, kn_425, kn_426, kn_427, kn_428, kn_429, kn_430, kn_431, kn_432, kn_433, kn_434, kn_435, kn_436, kn_437, kn_438, kn_439, kn_440, kn_441, kn_442, kn_443, kn_444, kn_445, kn_446, kn_447, kn_448, kn_449, kn_450, kn_451, kn_452, kn_453, y3, nI_clamp (show 2 * (h ||| 2 ^ k) + pls P k < 2 ^ 31 by omega)]
          rw [mn_nI (by omega) (by omega)]
          refine nxt _ (tSt mv (bhk P st K E) (pls P) (opn P H al fr) h k T) ?_ ?_ ?_ ?_ ?_ rfl (Fr_sI rfl)
          · exact RV_fr hV (Fr_sI (D := fun a _ => a = 441) rfl) (by intros; omega) (by intros; omega) (by omega)
          · rw [sI_1, if_neg (by omega)]; exact ha
          · rw [sI_1, if_neg (by omega)]; exact hfr
          · intro j hj
            unfold tSt
            rw [if_pos ho, sI_1]
            by_cases e : j = 2 * (h ||| 2 ^ k) + pls P k
            · subst e
              rw [if_pos ⟨rfl, rfl⟩]
              simp only [if_true]
            · rw [if_neg (fun q => e q.2), hT j hj]
              simp only [if_neg e]
          · intro j
            exact Nat.le_trans (tSt_le T j) (hle j)
        unfold pls at key
        by_cases c2 : P 1 k = 2
        · rw [if_neg (fun q => q c2)]
          exact key 1 (by rw [if_pos c2]; rfl)
        · rw [if_pos c2]
          exact key 0 (by rw [if_neg c2]; rfl)
theorem r_soon37 (hN : 1000 ≤ N) (W : Wp P n D mv) (hE : E ≤ 480) (hH : st 2 = nI H) : ∀ (f h : Nat) (s : sg) (T : Nat → Nat), 2 ^ n - h < f → h ≤ 2 ^ n → RV s P st K E → s.1 419 42 = nI al → s.1 419 43 = nI fr → Trow s n T → (∀ j, T j ≤ 100000) → ∃ s', lX12_tellSoon_37 N f 419 (nI h) (mk s) = some (.inl (), mk s') ∧ Trow s' n (tAl n mv (bhk P st K E) (pls P) (opn P H al fr) (2 ^ n - h) h T) ∧ Fr (fun a _ => a = 441) s s' := by
  have hp8 := pn8 W.1
  intro f
  induction f with
  | zero => intro h s T hf; omega
  | succ f ih =>
    intro h s T hf hh hV ha hfr hT hle
    show ∃ s', bX12_tellSoon_37 N (lX12_tellSoon_37 N f) 419 (nI h) (mk s) = _ ∧ _
    unfold bX12_tellSoon_37
    have e0 : s.1 422 0 = nI n := (hV.1 0 0 (by omega) (by omega)).trans W.2.1
    simp (decide := true) only [Option.bind_some, cS_inl, cS_inr, gI_k, gR_k, pI_k, pR_k, cV_k, aI_k, tI_k, rZ_0, rZ_1, rZ_i, rf_12_0, rf_12_1, rf_12_3, rf_12_4, rf_12_5, rf_12_6, rf_12_7, rf_12_8, rf_12_9, rf_12_10, rf_12_11, rf_12_12, rf_12_13, rf_12_14, rf_12_15, rf_12_26, rf_12_27, rf_12_31, rf_12_32, rf_12_33, rf_12_34, rf_12_41, rf_12_44, rf_12_47, rf_12_48, rf_12_49, rf_12_51, rf_12_55, rf_12_56, rf_12_57, rf_12_58, rf_12_59, rf_12_60, Nat.reduceAdd, kc_419, kc_420, kc_421, kc_422, kc_423, kc_424, kc_425, kc_426, kc_427, kc_428, kc_429, kc_430, kc_431, kc_432, kc_433, kc_434, kc_435, kc_436, kc_437, kc_438, kc_439, kc_440, kc_441, kc_442, kc_443, kc_444, kc_445, kc_446, kc_447, kc_448, kc_449, kc_450, kc_451, kc_452, kc_453, kn_420, kn_421, kn_422, kn_423, kn_424, kn_425, kn_426, kn_427, kn_428, kn_429, kn_430, kn_431, kn_432, kn_433, kn_434, kn_435, kn_436, kn_437, kn_438, kn_439, kn_440, kn_441, kn_442, kn_443, kn_444, kn_445, kn_446, kn_447, kn_448, kn_449, kn_450, kn_451, kn_452, kn_453, nc_0, e0, (shl_n n W.1).1]
    by_cases c1 : 2 ^ n ≤ h
    · rw [if_pos (nI_le c1 (by omega))]
      refine ⟨s, rfl, ?_, Fr_r _ _⟩
      rw [show 2 ^ n - h = 0 by omega]; exact hT
    · rw [if_neg (nI_ge (by omega) (by omega))]
      obtain ⟨s', b1, b2, b3, b4⟩ := r_soon52 hN W hE hH (k37 := lX12_tellSoon_37 N f) (show h < 2 ^ n by omega) N 0 s T (by have := W.1; omega) (by omega) hV ha hfr hT hle
      rw [Nat.sub_zero] at b2 b3
      obtain ⟨s2, d1, d2, d3⟩ := ih (h + 1) s' _ (by omega) (by omega) (RV_fr hV b4 (by intros; omega) (by intros; omega) (by omega)) ((b4.1 _ _ (by omega)).trans ha) ((b4.1 _ _ (by omega)).trans hfr) b2 b3
      refine ⟨s2, b1.trans d1, ?_, Fr_t b4 d3⟩
      obtain ⟨g, hg⟩ : ∃ g, 2 ^ n - h = g + 1 := ⟨2 ^ n - h - 1, by omega⟩
      rw [hg]
      rw [show 2 ^ n - (h + 1) = g by omega] at d2
      exact d2
theorem r_soon2 (hN : 1000 ≤ N) (W : Wp P n D mv) (hE : E ≤ 480) (hH : st 2 = nI H) (hm : m ≤ 480) {i : Nat} (hi : i ≤ 1) : ∀ (f j : Nat) (s : sg), 2 ^ (n + 1) - j < f → j ≤ 2 ^ (n + 1) → RV s P st K E → s.1 419 42 = nI al → s.1 419 43 = nI fr → (∀ j', j' < j → s.1 441 j' = 100000) → ∃ s', lX12_tellSoon_2 N f 419 (nI m) (nI i) (nI j) (mk s) = some (.inl (), mk s') ∧ Trow s' n (tFin n mv (bhk P st K E) (pls P) (opn P H al fr) m i) ∧ Fr (fun a _ => a = 441) s s' := by
  have hp8 := pn8 W.1
  have hp1 := pn1 (n := n)
  have hpp := Nat.two_pow_pos n
  intro f
  induction f with
  | zero => intro j s hf; omega
  | succ f ih =>
    intro j s hf hj hV ha hfr hz
    show ∃ s', bX12_tellSoon_2 N (lX12_tellSoon_2 N f) 419 (nI m) (nI i) (nI j) (mk s) = _ ∧ _
    unfold bX12_tellSoon_2
    have e0 : s.1 422 0 = nI n := (hV.1 0 0 (by omega) (by omega)).trans W.2.1
    simp (decide := true) only [Option.bind_some, cS_inl, cS_inr, gI_k, gR_k, pI_k, pR_k, cV_k, aI_k, tI_k, rZ_0, rZ_1, rZ_i, rf_12_0, rf_12_1, rf_12_3, rf_12_4, rf_12_5, rf_12_6, rf_12_7, rf_12_8, rf_12_9, rf_12_10, rf_12_11, rf_12_12, rf_12_13, rf_12_14, rf_12_15, rf_12_26, rf_12_27, rf_12_31, rf_12_32, rf_12_33, rf_12_34, rf_12_41, rf_12_44, rf_12_47, rf_12_48, rf_12_49, rf_12_51, rf_12_55, rf_12_56, rf_12_57, rf_12_58, rf_12_59, rf_12_60, Nat.reduceAdd, kc_419, kc_420, kc_421, kc_422, kc_423, kc_424, kc_425, kc_426, kc_427, kc_428, kc_429, kc_430, kc_431, kc_432, kc_433, kc_434, kc_435, kc_436, kc_437, kc_438, kc_439, kc_440, kc_441, kc_442, kc_443, kc_444, kc_445, kc_446, kc_447, kc_448, kc_449, kc_450, kc_451, kc_452, kc_453, kn_420, kn_421, kn_422, kn_423, kn_424, kn_425, kn_426, kn_427, kn_428, kn_429, kn_430, kn_431, kn_432, kn_433, kn_434, kn_435, kn_436, kn_437, kn_438, kn_439, kn_440, kn_441, kn_442, kn_443, kn_444, kn_445, kn_446, kn_447, kn_448, kn_449, kn_450, kn_451, kn_452, kn_453, nc_0, e0, (shl_n n W.1).2]
    by_cases c1 : 2 ^ (n + 1) ≤ j
    · rw [if_pos (nI_le c1 (by omega))]
      unfold bX12_tellSoon_28
      have y1 : inB (nI i) 512 = true := inA_nI (by omega) (by omega)
      simp (decide := true) only [Option.bind_some, cS_inl, cS_inr, gI_k, gR_k, pI_k, pR_k, cV_k, aI_k, tI_k, rZ_0, rZ_1, rZ_i, rf_12_0, rf_12_1, rf_12_3, rf_12_4, rf_12_5, rf_12_6, rf_12_7, rf_12_8, rf_12_9, rf_12_10, rf_12_11, rf_12_12, rf_12_13, rf_12_14, rf_12_15, rf_12_26, rf_12_27, rf_12_31, rf_12_32, rf_12_33, rf_12_34, rf_12_41, rf_12_44, rf_12_47, rf_12_48, rf_12_49, rf_12_51, rf_12_55, rf_12_56, rf_12_57, rf_12_58, rf_12_59, rf_12_60, Nat.reduceAdd, kc_419, kc_420, kc_421, kc_422, kc_423, kc_424, kc_425, kc_426, kc_427, kc_428, kc_429, kc_430, kc_431, kc_432, kc_433, kc_434, kc_435, kc_436, kc_437, kc_438, kc_439, kc_440, kc_441, kc_442, kc_443, kc_444, kc_445, kc_446, kc_447, kc_448, kc_449, kc_450, kc_451, kc_452, kc_453, kn_420, kn_421, kn_422, kn_423, kn_424, kn_425, kn_426, kn_427, kn_428, kn_429, kn_430, kn_431, kn_432, kn_433, kn_434, kn_435, kn_436, kn_437, kn_438, kn_439, kn_440, kn_441, kn_442, kn_443, kn_444, kn_445, kn_446, kn_447, kn_448, kn_449, kn_450, kn_451, kn_452, kn_453, y1, nI_clamp (show i < 2 ^ 31 by omega)]
      have f0 : Fr (fun a _ => a = 441) s (sI s 441 i (nI m)) := Fr_sI rfl
      obtain ⟨s', b1, b2, b3⟩ := r_soon37 hN W hE hH N 0 (sI s 441 i (nI m)) (tT0 m i) (by omega) (by omega) (RV_fr hV f0 (by intros; omega) (by intros; omega) (by omega)) ((f0.1 _ _ (by omega)).trans ha) ((f0.1 _ _ (by omega)).trans hfr) (fun j' hj' => by
        rw [sI_1]
        unfold tT0
        by_cases e : j' = i
        · rw [if_pos ⟨rfl, e⟩, if_pos e]
        · rw [if_neg (fun q => e q.2), if_neg e, hz j' (by omega)]; rfl) (fun j' => by unfold tT0; split <;> omega)
      rw [Nat.sub_zero] at b2
      exact ⟨s', b1, b2, Fr_t f0 b3⟩
    · rw [if_neg (nI_ge (by omega) (by omega))]
      have y1 : inB (nI j) 512 = true := inA_nI (by omega) (by omega)
      simp (decide := true) only [Option.bind_some, cS_inl, cS_inr, gI_k, gR_k, pI_k, pR_k, cV_k, aI_k, tI_k, rZ_0, rZ_1, rZ_i, rf_12_0, rf_12_1, rf_12_3, rf_12_4, rf_12_5, rf_12_6, rf_12_7, rf_12_8, rf_12_9, rf_12_10, rf_12_11, rf_12_12, rf_12_13, rf_12_14, rf_12_15, rf_12_26, rf_12_27, rf_12_31, rf_12_32, rf_12_33, rf_12_34, rf_12_41, rf_12_44, rf_12_47, rf_12_48, rf_12_49, rf_12_51, rf_12_55, rf_12_56, rf_12_57, rf_12_58, rf_12_59, rf_12_60, Nat.reduceAdd, kc_419, kc_420, kc_421, kc_422, kc_423, kc_424, kc_425, kc_426, kc_427, kc_428, kc_429, kc_430, kc_431, kc_432, kc_433, kc_434, kc_435, kc_436, kc_437, kc_438, kc_439, kc_440, kc_441, kc_442, kc_443, kc_444, kc_445, kc_446, kc_447, kc_448, kc_449, kc_450, kc_451, kc_452, kc_453, kn_420, kn_421, kn_422, kn_423, kn_424, kn_425, kn_426, kn_427, kn_428, kn_429, kn_430, kn_431, kn_432, kn_433, kn_434, kn_435, kn_436, kn_437, kn_438, kn_439, kn_440, kn_441, kn_442, kn_443, kn_444, kn_445, kn_446, kn_447, kn_448, kn_449, kn_450, kn_451, kn_452, kn_453, y1, nI_clamp (show j < 2 ^ 31 by omega), nI_1]
      have f0 : Fr (fun a _ => a = 441) s (sI s 441 j 100000) := Fr_sI rfl
      obtain ⟨s', b1, b2, b3⟩ := ih (j + 1) (sI s 441 j 100000) (by omega) (by omega) (RV_fr hV f0 (by intros; omega) (by intros; omega) (by omega)) ((f0.1 _ _ (by omega)).trans ha) ((f0.1 _ _ (by omega)).trans hfr) (fun j' hj' => by
        rw [sI_1]
        by_cases e : j' = j
        · rw [if_pos ⟨rfl, e⟩]
        · rw [if_neg (fun q => e q.2), hz j' (by omega)])
      exact ⟨s', b1, b2, Fr_t f0 b3⟩
theorem r_tellSoon (hN : 1000 ≤ N) (W : Wp P n D mv) (hE : E ≤ 480) (hH : st 2 = nI H) (hm : m ≤ 480) {i : Nat} (hi : i ≤ 1) (hV : RV s P st K E) (ha : s.1 419 42 = nI al) (hfr : s.1 419 43 = nI fr) : ∃ s', fX12_tellSoon N 419 (nI m) (nI i) (mk s) = some (.inl (), mk s') ∧ Trow s' n (tFin n mv (bhk P st K E) (pls P) (opn P H al fr) m i) ∧ Fr (fun a _ => a = 441) s s' := by
  have hp8 := pn8 W.1
  have hp1 := pn1 (n := n)
  exact r_soon2 hN W hE hH hm hi N 0 s (by omega) (by omega) hV ha hfr (fun j' hj' => by omega)
end RS
