/- needs: 40.rquery -/
/-! holes, and tries by chances: both sides -/
def bgn (K : Nat → Bool) (m : Nat) : Bool := K m && (decide (m = 0) || !K (m - 1))
/-- the holes from minute m on: where, how long -/
def hl (K : Nat → Bool) (D : Nat) : Nat → Nat → List (Nat × Nat)
  | 0, _ => []
  | f + 1, m => if bgn K m = true then (m, stays K D m) :: hl K D f (m + 1) else hl K D f (m + 1)
theorem hl_s (K : Nat → Bool) (D f m : Nat) : hl K D (f + 1) m = if bgn K m = true then (m, stays K D m) :: hl K D f (m + 1) else hl K D f (m + 1) := rfl
theorem stays_le {K : Nat → Bool} {D m : Nat} (h : m ≤ D) : m + stays K D m ≤ D := by
  have := rl_le K (K m) (D - m) m
  unfold stays
  omega
theorem rl_run (K : Nat → Bool) (v : Bool) : ∀ f j i, i < rl K v f j → K (j + i) = v
  | 0, j, i, h => by simp [rl] at h
  | f + 1, j, i, h => by
    rw [rl_s] at h
    by_cases c : K j = v
    · rw [if_pos c] at h
      cases i with
      | zero => exact c
      | succ i =>
        have := rl_run K v f (j + 1) i (by omega)
        rwa [show j + 1 + i = j + (i + 1) by omega] at this
    · rw [if_neg c] at h; omega
theorem rl_stop (K : Nat → Bool) (v : Bool) : ∀ f j, rl K v f j < f → K (j + rl K v f j) ≠ v
  | 0, j, h => by omega
  | f + 1, j, h => by
    rw [rl_s] at h ⊢
    by_cases c : K j = v
    · rw [if_pos c] at h ⊢
      have := rl_stop K v f (j + 1) (by omega)
      rwa [show j + 1 + rl K v f (j + 1) = j + (rl K v f (j + 1) + 1) by omega] at this
    · rw [if_neg c]; exact c
/-- within a hole none begins -/
theorem hl_run {K : Nat → Bool} {D : Nat} : ∀ (i m : Nat), (∀ j, j < i → K (m + j) = true) → (m = 0 → i = 0) → (m ≠ 0 → K (m - 1) = true) → m + i ≤ D → hl K D (D - m) m = hl K D (D - (m + i)) (m + i)
  | 0, m, _, _, _, _ => rfl
  | i + 1, m, h, h0, h1, hD => by
    obtain ⟨g, hg⟩ : ∃ g, D - m = g + 1 := ⟨D - m - 1, by omega⟩
    have hm : m ≠ 0 := fun e => by have := h0 e; omega
    rw [hg, hl_s, if_neg (by unfold bgn; simp [hm, h1 hm]), show g = D - (m + 1) by omega, hl_run i (m + 1) (fun j hj => by rw [show m + 1 + j = m + (j + 1) by omega]; exact h (j + 1) (by omega)) (fun e => by omega) (fun _ => by rw [show m + 1 - 1 = m by omega]; exact h 0 (by omega)) (by omega), show m + 1 + i = m + (i + 1) by omega]
theorem sub1 {D i : Nat} (h : i < D) : ∃ g, D - i = g + 1 ∧ D - (i + 1) = g := ⟨D - i - 1, by omega, by omega⟩
section HO
variable {N : Nat} {s : sg} {K : Nat → Bool} {st : Nat → Int32} {P : pln} {p a n D mv E H k m w : Nat}
theorem c_begins (hO : OLk s 381 p a D K) (hm : m < D) (hD : D ≤ 480) : fX1_beginsHole N 381 (nI m) (mk s) = some (.inl (sk_i (bgn K m)), mk s) := by
  have i1 : inB (nI m) 480 = true := inA_nI (by omega) (by omega)
  unfold fX1_beginsHole bX1_beginsHole_0 bX1_beginsHole_26
  simp (decide := true) only [ob_s, cS_l, cS_r, gI_k, gR_k, pI_k, pR_k, cV_k, aI_k, tI_k, rZ_0, rZ_1, rZ_i, aR_24, aR_25, aZ_k, tZ_k, rf_3_6, rf_3_7, rf_3_8, rf_5_0, rf_5_1, rf_5_3, rf_5_4, rf_5_5, rf_5_7, rf_6_4, rf_6_11, rf_1_0, rf_1_1, rf_0_6, rf_9_7, rf_9_8, rf_8_0, rf_11_0, rf_11_5, rf_11_6, rf_11_7, rf_11_9, rf_11_10, rf_11_11, rf_11_12, rf_11_3, rf_11_4, Nat.reduceAdd, Nat.zero_add, kc_0, kc_1, kc_34, kc_35, kc_36, kc_37, kc_38, kc_39, kc_40, kc_41, kc_42, kc_43, kc_44, kc_45, kc_46, kc_207, kc_208, kc_209, kc_210, kc_211, kc_212, kc_213, kc_214, kc_215, kc_216, kc_377, kc_378, kc_379, kc_380, kc_381, kc_382, kc_383, kc_384, kc_385, kc_386, kc_387, kc_388, kc_389, kc_390, kc_391, kc_392, kc_393, kc_394, kc_395, kc_414, kc_415, kc_416, kc_417, kc_418, kn_1, kn_36, kn_39, kn_41, kn_42, kn_43, kn_44, kn_45, kn_46, kn_209, kn_211, kn_212, kn_213, kn_214, kn_215, kn_216, kn_378, kn_380, kn_382, kn_383, kn_385, kn_386, kn_388, kn_390, kn_392, kn_393, kn_395, kn_414, kn_415, kn_417, kn_418, i1, nI_clamp (show m < 2 ^ 31 by omega), (hO.2.2.2 m (by omega) hm).2]
  unfold bgn
  cases hk : K m
  · simp [lgt, sk_i]
  · simp only [lgt, if_true, not_true_eq_false, if_false]
    cases m with
    | zero => simp [nI0, sk_i]
    | succ g =>
      have i2 : inB (nI g) 480 = true := inA_nI (by omega) (by omega)
      rw [if_neg (nI_ne0 (by omega) (by omega)), nI_pred]
      simp (decide := true) only [ob_s, cS_l, cS_r, gI_k, gR_k, pI_k, pR_k, cV_k, aI_k, tI_k, rZ_0, rZ_1, rZ_i, aR_24, aR_25, aZ_k, tZ_k, rf_3_6, rf_3_7, rf_3_8, rf_5_0, rf_5_1, rf_5_3, rf_5_4, rf_5_5, rf_5_7, rf_6_4, rf_6_11, rf_1_0, rf_1_1, rf_0_6, rf_9_7, rf_9_8, rf_8_0, rf_11_0, rf_11_5, rf_11_6, rf_11_7, rf_11_9, rf_11_10, rf_11_11, rf_11_12, rf_11_3, rf_11_4, Nat.reduceAdd, Nat.zero_add, kc_0, kc_1, kc_34, kc_35, kc_36, kc_37, kc_38, kc_39, kc_40, kc_41, kc_42, kc_43, kc_44, kc_45, kc_46, kc_207, kc_208, kc_209, kc_210, kc_211, kc_212, kc_213, kc_214, kc_215, kc_216, kc_377, kc_378, kc_379, kc_380, kc_381, kc_382, kc_383, kc_384, kc_385, kc_386, kc_387, kc_388, kc_389, kc_390, kc_391, kc_392, kc_393, kc_394, kc_395, kc_414, kc_415, kc_416, kc_417, kc_418, kn_1, kn_36, kn_39, kn_41, kn_42, kn_43, kn_44, kn_45, kn_46, kn_209, kn_211, kn_212, kn_213, kn_214, kn_215, kn_216, kn_378, kn_380, kn_382, kn_383, kn_385, kn_386, kn_388, kn_390, kn_392, kn_393, kn_395, kn_414, kn_415, kn_417, kn_418, i2, nI_clamp (show g < 2 ^ 31 by omega), (hO.2.2.2 g (by omega) (by omega)).2]
      simp only [show g + 1 - 1 = g by omega]
      cases K g <;> simp [lgt, sk_i]
/-- how many holes are of w minutes or more -/
def cH (w : Nat) (l : List (Nat × Nat)) : Nat := (l.filter (fun q => decide (w ≤ q.2))).length
theorem cH_c (w : Nat) (q : Nat × Nat) (l : List (Nat × Nat)) : cH w (q :: l) = (if w ≤ q.2 then 1 else 0) + cH w l := by
  unfold cH
  rw [List.filter_cons]
  by_cases h : w ≤ q.2
  · simp [h]; omega
  · simp [h]
theorem c_holes31 (h : CQ s p P n D mv st K) (hO : OLk s 381 p 38 D K) (hD : D ≤ 480) (hw : w ≤ 480) : ∀ (f i c : Nat), D - i < f → i ≤ D → c ≤ i → lX11_holes_31 N f 0 (nI w) (nI c) (nI i) (mk s) = some (.inl (nI (c + cH w (hl K D (D - i) i))), mk s) := by
  have hpO := plA_O h.1
  intro f
  induction f with
  | zero => intro i c hf; omega
  | succ f ih =>
    intro i c hf hi hc
    show bX11_holes_31 N (lX11_holes_31 N f) 0 (nI w) (nI c) (nI i) (mk s) = _
    unfold bX11_holes_31 bX11_holes_75
    simp (decide := true) only [ob_s, cS_l, cS_r, gI_k, gR_k, pI_k, pR_k, cV_k, aI_k, tI_k, rZ_0, rZ_1, rZ_i, aR_24, aR_25, aZ_k, tZ_k, rf_3_6, rf_3_7, rf_3_8, rf_5_0, rf_5_1, rf_5_3, rf_5_4, rf_5_5, rf_5_7, rf_6_4, rf_6_11, rf_1_0, rf_1_1, rf_0_6, rf_9_7, rf_9_8, rf_8_0, rf_11_0, rf_11_5, rf_11_6, rf_11_7, rf_11_9, rf_11_10, rf_11_11, rf_11_12, rf_11_3, rf_11_4, Nat.reduceAdd, Nat.zero_add, kc_0, kc_1, kc_34, kc_35, kc_36, kc_37, kc_38, kc_39, kc_40, kc_41, kc_42, kc_43, kc_44, kc_45, kc_46, kc_207, kc_208, kc_209, kc_210, kc_211, kc_212, kc_213, kc_214, kc_215, kc_216, kc_377, kc_378, kc_379, kc_380, kc_381, kc_382, kc_383, kc_384, kc_385, kc_386, kc_387, kc_388, kc_389, kc_390, kc_391, kc_392, kc_393, kc_394, kc_395, kc_414, kc_415, kc_416, kc_417, kc_418, kn_1, kn_36, kn_39, kn_41, kn_42, kn_43, kn_44, kn_45, kn_46, kn_209, kn_211, kn_212, kn_213, kn_214, kn_215, kn_216, kn_378, kn_380, kn_382, kn_383, kn_385, kn_386, kn_388, kn_390, kn_392, kn_393, kn_395, kn_414, kn_415, kn_417, kn_418, h.2.1, hpO.1, h.2.2.1.1]
    by_cases c1 : D ≤ i
    · rw [if_pos (nI_le c1 (by omega)), show D - i = 0 by omega]
      rfl
    · rw [if_neg (nI_ge (by omega) (by omega))]
      obtain ⟨g, hg⟩ : ∃ g, D - i = g + 1 := ⟨D - i - 1, by omega⟩
      have i1 : inB (nI i) 481 = true := inA_nI (by omega) (by omega)
      have hsl := stays_le (K := K) (show i ≤ D by omega)
      simp (decide := true) only [ob_s, cS_l, cS_r, gI_k, gR_k, pI_k, pR_k, cV_k, aI_k, tI_k, rZ_0, rZ_1, rZ_i, aR_24, aR_25, aZ_k, tZ_k, rf_3_6, rf_3_7, rf_3_8, rf_5_0, rf_5_1, rf_5_3, rf_5_4, rf_5_5, rf_5_7, rf_6_4, rf_6_11, rf_1_0, rf_1_1, rf_0_6, rf_9_7, rf_9_8, rf_8_0, rf_11_0, rf_11_5, rf_11_6, rf_11_7, rf_11_9, rf_11_10, rf_11_11, rf_11_12, rf_11_3, rf_11_4, Nat.reduceAdd, Nat.zero_add, kc_0, kc_1, kc_34, kc_35, kc_36, kc_37, kc_38, kc_39, kc_40, kc_41, kc_42, kc_43, kc_44, kc_45, kc_46, kc_207, kc_208, kc_209, kc_210, kc_211, kc_212, kc_213, kc_214, kc_215, kc_216, kc_377, kc_378, kc_379, kc_380, kc_381, kc_382, kc_383, kc_384, kc_385, kc_386, kc_387, kc_388, kc_389, kc_390, kc_391, kc_392, kc_393, kc_394, kc_395, kc_414, kc_415, kc_416, kc_417, kc_418, kn_1, kn_36, kn_39, kn_41, kn_42, kn_43, kn_44, kn_45, kn_46, kn_209, kn_211, kn_212, kn_213, kn_214, kn_215, kn_216, kn_378, kn_380, kn_382, kn_383, kn_385, kn_386, kn_388, kn_390, kn_392, kn_393, kn_395, kn_414, kn_415, kn_417, kn_418, c_begins hO (show i < D by omega) hD, sk_0, i1, nI_clamp (show i < 2 ^ 31 by omega), (hO.2.2.2 i (by omega) (by omega)).1]
      unfold bX11_holes_69
      rw [nI_1, nI_1, hg, hl_s, ih (i + 1) c (by omega) (by omega) (by omega), ih (i + 1) (c + 1) (by omega) (by omega) (by omega), show D - (i + 1) = g by omega]
      cases hb : bgn K i
      · simp
      · simp only [Bool.true_eq_false, if_false, if_true, cH_c]
        by_cases c2 : stays K D i < w
        · rw [if_pos (nI_lt c2 (by omega)), if_neg (by omega), Nat.zero_add]
        · rw [if_neg (nI_nlt (by omega) (by omega)), if_pos (by omega), Nat.add_assoc]
theorem c_holes (hN1 : 1000 ≤ N) (h : CQ s p P n D mv st K) (hn : n ≤ 8) (hD : D ≤ 480) (hw : w < 480) : ∃ s', fX11_holes N 0 (nI (w + 1)) (mk s) = some (.inl (nI (cH (w + 1) (hl K D D 0))), mk s') ∧ Fr cQ s s' := by
  obtain ⟨s1, a1, a2, a3⟩ := c_look (N := N) hN1 h hD
  have f1 : Fr cQ s s1 := Fr_m a3 (fun x j => oD_cQ)
  refine ⟨s1, ?_, f1⟩
  have := c_holes31 (N := N) (w := w + 1) (CQ_fr h hn f1) a2 hD (by omega) N 0 0 (by omega) (by omega) (by omega)
  rw [nI0, Nat.zero_add, show D - 0 = D by omega] at this
  unfold fX11_holes bX11_holes_0
  rw [if_neg (show ¬ nI (w + 1) < 1 from nI_nlt (b := 1) (by omega) (by omega)), if_pos (show nI (w + 1) ≤ 480 from nI_le (b := 480) (by omega) (by omega))]
  simp (decide := true) only [ob_s, cS_l, cS_r, gI_k, gR_k, pI_k, pR_k, cV_k, aI_k, tI_k, rZ_0, rZ_1, rZ_i, aR_24, aR_25, aZ_k, tZ_k, rf_3_6, rf_3_7, rf_3_8, rf_5_0, rf_5_1, rf_5_3, rf_5_4, rf_5_5, rf_5_7, rf_6_4, rf_6_11, rf_1_0, rf_1_1, rf_0_6, rf_9_7, rf_9_8, rf_8_0, rf_11_0, rf_11_5, rf_11_6, rf_11_7, rf_11_9, rf_11_10, rf_11_11, rf_11_12, rf_11_3, rf_11_4, Nat.reduceAdd, Nat.zero_add, kc_0, kc_1, kc_34, kc_35, kc_36, kc_37, kc_38, kc_39, kc_40, kc_41, kc_42, kc_43, kc_44, kc_45, kc_46, kc_207, kc_208, kc_209, kc_210, kc_211, kc_212, kc_213, kc_214, kc_215, kc_216, kc_377, kc_378, kc_379, kc_380, kc_381, kc_382, kc_383, kc_384, kc_385, kc_386, kc_387, kc_388, kc_389, kc_390, kc_391, kc_392, kc_393, kc_394, kc_395, kc_414, kc_415, kc_416, kc_417, kc_418, kn_1, kn_36, kn_39, kn_41, kn_42, kn_43, kn_44, kn_45, kn_46, kn_209, kn_211, kn_212, kn_213, kn_214, kn_215, kn_216, kn_378, kn_380, kn_382, kn_383, kn_385, kn_386, kn_388, kn_390, kn_392, kn_393, kn_395, kn_414, kn_415, kn_417, kn_418, a1]
  exact this
theorem c_holes' {x : Int32} (hx : ¬ (1 ≤ x ∧ x ≤ 480)) : fX11_holes N 0 x (mk s) = some (.inr 0, mk s) := by
  unfold fX11_holes bX11_holes_0 bX11_holes_12
  by_cases c : x < 1
  · rw [if_pos c]
  · rw [if_neg c, if_neg (fun q => hx ⟨Int32.not_lt.mp c, q⟩)]
/-- clean: no hole is cut at m -/
def cln (K : Nat → Bool) (D m : Nat) : Prop := m ≤ D ∧ (m = 0 ∨ K (m - 1) = false ∨ m = D ∨ K m = false)
theorem r_nh51 (h : RU s P st K) (W : Wp P n D mv) : ∀ (f e : Nat) (s : sg), D - e < f → e ≤ D → RU s P st K → s.1 419 46 = nI e → ∃ s', lX12_nextHole_51 N f 419 (mk s) = bX12_nextHole_90 N 419 (mk s') ∧ s'.1 419 46 = nI (e + rl K true (D - e) e) ∧ s'.1 419 45 = s.1 419 45 ∧ s'.1 419 2 = s.1 419 2 ∧ Fr rQ s s' := by
  have hD := W.2.2.2.1
  intro f
  induction f with
  | zero => intro e s hf; omega
  | succ f ih =>
    intro e s hf he h h46
    show ∃ s', bX12_nextHole_51 N (lX12_nextHole_51 N f) 419 (mk s) = _ ∧ _
    unfold bX12_nextHole_51
    have e1 : s.1 422 1 = nI D := (h.1 0 1 (by omega) (by omega)).trans W.2.2.2.2.1
    simp (decide := true) only [ob_s, cS_l, cS_r, gI_k, gR_k, pI_k, pR_k, cV_k, aI_k, tI_k, rZ_0, rZ_1, rZ_i, rf_12_0, rf_12_1, rf_12_3, rf_12_4, rf_12_5, rf_12_6, rf_12_7, rf_12_8, rf_12_9, rf_12_10, rf_12_11, rf_12_12, rf_12_13, rf_12_14, rf_12_15, rf_12_26, rf_12_27, rf_12_31, rf_12_32, rf_12_33, rf_12_34, rf_12_41, rf_12_44, rf_12_47, rf_12_48, rf_12_49, rf_12_51, rf_12_55, rf_12_56, rf_12_57, rf_12_58, rf_12_59, rf_12_60, Nat.reduceAdd, kc_419, kc_420, kc_421, kc_422, kc_423, kc_424, kc_425, kc_426, kc_427, kc_428, kc_429, kc_430, kc_431, kc_432, kc_433, kc_434, kc_435, kc_436, kc_437, kc_438, kc_439, kc_440, kc_441, kc_442, kc_443, kc_444, kc_445, kc_446, kc_447, kc_448, kc_449, kc_450, kc_451, kc_452, kc_453, kn_420, kn_421, kn_422, kn_423, kn_424, kn_425, kn_426, kn_427, kn_428, kn_429, kn_430, kn_431, kn_432, kn_433, kn_434, kn_435, kn_436, kn_437, kn_438, kn_439, kn_440, kn_441, kn_442, kn_443, kn_444, kn_445, kn_446, kn_447, kn_448, kn_449, kn_450, kn_451, kn_452, kn_453, nc_1, e1, h46]
    by_cases c : D ≤ e
    · rw [if_pos (nI_le c (by omega)), show D - e = 0 by omega]
      exact ⟨s, rfl, h46, rfl, rfl, Fr_r _ _⟩
    · rw [if_neg (nI_ge (by omega) (by omega))]
      obtain ⟨g, hg⟩ : ∃ g, D - e = g + 1 := ⟨D - e - 1, by omega⟩
      have ie : inB (nI e) 960 = true := inA_nI (by omega) (by omega)
      simp (decide := true) only [ob_s, cS_l, cS_r, gI_k, gR_k, pI_k, pR_k, cV_k, aI_k, tI_k, rZ_0, rZ_1, rZ_i, rf_12_0, rf_12_1, rf_12_3, rf_12_4, rf_12_5, rf_12_6, rf_12_7, rf_12_8, rf_12_9, rf_12_10, rf_12_11, rf_12_12, rf_12_13, rf_12_14, rf_12_15, rf_12_26, rf_12_27, rf_12_31, rf_12_32, rf_12_33, rf_12_34, rf_12_41, rf_12_44, rf_12_47, rf_12_48, rf_12_49, rf_12_51, rf_12_55, rf_12_56, rf_12_57, rf_12_58, rf_12_59, rf_12_60, Nat.reduceAdd, kc_419, kc_420, kc_421, kc_422, kc_423, kc_424, kc_425, kc_426, kc_427, kc_428, kc_429, kc_430, kc_431, kc_432, kc_433, kc_434, kc_435, kc_436, kc_437, kc_438, kc_439, kc_440, kc_441, kc_442, kc_443, kc_444, kc_445, kc_446, kc_447, kc_448, kc_449, kc_450, kc_451, kc_452, kc_453, kn_420, kn_421, kn_422, kn_423, kn_424, kn_425, kn_426, kn_427, kn_428, kn_429, kn_430, kn_431, kn_432, kn_433, kn_434, kn_435, kn_436, kn_437, kn_438, kn_439, kn_440, kn_441, kn_442, kn_443, kn_444, kn_445, kn_446, kn_447, kn_448, kn_449, kn_450, kn_451, kn_452, kn_453, ie, nI_clamp (show e < 2 ^ 31 by omega), h.2.2 e (by omega), sk_1, h46, nI_1]
      rw [hg, rl_s]
      cases hk : K e
      · rw [if_pos (by decide), if_neg (by decide)]
        exact ⟨s, rfl, h46, rfl, rfl, Fr_r _ _⟩
      · rw [if_neg (fun q => q rfl), if_pos rfl]
        have f1 : Fr rQ s (sI s 419 46 (nI (e + 1))) := Fr_sI (by unfold rQ; omega)
        obtain ⟨s', b1, b2, b3, b4, b5⟩ := ih (e + 1) (sI s 419 46 (nI (e + 1))) (by omega) (by omega) (RU_fr h f1) (by simp [sI_c])
        refine ⟨s', b1, ?_, ?_, ?_, Fr_t f1 b5⟩
        · rw [b2, show D - (e + 1) = g by omega]
          congr 1
          omega
        · rw [b3]; simp [sI_c]
        · rw [b4]; simp [sI_c]
theorem r_nh5 (W : Wp P n D mv) (hN1 : 1000 ≤ N) : ∀ (f i : Nat) (s : sg), D - i < f → cln K D i → RU s P st K → s.1 419 45 = nI i → ∃ s' j, lX12_nextHole_5 N f 419 (mk s) = some (.inl (sk_i (decide (j < D))), mk s') ∧ j ≤ D ∧ i ≤ j ∧ hl K D (D - i) i = hl K D (D - j) j ∧ (j < D → bgn K j = true ∧ s'.1 419 45 = nI j ∧ s'.1 419 46 = nI (j + stays K D j)) ∧ s'.1 419 2 = s.1 419 2 ∧ Fr rQ s s' := by
  have hD := W.2.2.2.1
  intro f
  induction f with
  | zero => intro i s hf; omega
  | succ f ih =>
    intro i s hf hc h h45
    have hi := hc.1
    show ∃ s' j, bX12_nextHole_5 N (lX12_nextHole_5 N f) 419 (mk s) = _ ∧ _
    unfold bX12_nextHole_5
    have e1 : s.1 422 1 = nI D := (h.1 0 1 (by omega) (by omega)).trans W.2.2.2.2.1
    simp (decide := true) only [ob_s, cS_l, cS_r, gI_k, gR_k, pI_k, pR_k, cV_k, aI_k, tI_k, rZ_0, rZ_1, rZ_i, rf_12_0, rf_12_1, rf_12_3, rf_12_4, rf_12_5, rf_12_6, rf_12_7, rf_12_8, rf_12_9, rf_12_10, rf_12_11, rf_12_12, rf_12_13, rf_12_14, rf_12_15, rf_12_26, rf_12_27, rf_12_31, rf_12_32, rf_12_33, rf_12_34, rf_12_41, rf_12_44, rf_12_47, rf_12_48, rf_12_49, rf_12_51, rf_12_55, rf_12_56, rf_12_57, rf_12_58, rf_12_59, rf_12_60, Nat.reduceAdd, kc_419, kc_420, kc_421, kc_422, kc_423, kc_424, kc_425, kc_426, kc_427, kc_428, kc_429, kc_430, kc_431, kc_432, kc_433, kc_434, kc_435, kc_436, kc_437, kc_438, kc_439, kc_440, kc_441, kc_442, kc_443, kc_444, kc_445, kc_446, kc_447, kc_448, kc_449, kc_450, kc_451, kc_452, kc_453, kn_420, kn_421, kn_422, kn_423, kn_424, kn_425, kn_426, kn_427, kn_428, kn_429, kn_430, kn_431, kn_432, kn_433, kn_434, kn_435, kn_436, kn_437, kn_438, kn_439, kn_440, kn_441, kn_442, kn_443, kn_444, kn_445, kn_446, kn_447, kn_448, kn_449, kn_450, kn_451, kn_452, kn_453, nc_1, e1, h45]
    -- the hole begins here, or there is none
    have fin : (i < D → K i = true) → ∃ s' j, bX12_nextHole_43 N 419 (mk s) = some (.inl (sk_i (decide (j < D))), mk s') ∧ j ≤ D ∧ i ≤ j ∧ hl K D (D - i) i = hl K D (D - j) j ∧ (j < D → bgn K j = true ∧ s'.1 419 45 = nI j ∧ s'.1 419 46 = nI (j + stays K D j)) ∧ s'.1 419 2 = s.1 419 2 ∧ Fr rQ s s' := by
      intro hk
      unfold bX12_nextHole_43
      simp (decide := true) only [ob_s, cS_l, cS_r, gI_k, gR_k, pI_k, pR_k, cV_k, aI_k, tI_k, rZ_0, rZ_1, rZ_i, rf_12_0, rf_12_1, rf_12_3, rf_12_4, rf_12_5, rf_12_6, rf_12_7, rf_12_8, rf_12_9, rf_12_10, rf_12_11, rf_12_12, rf_12_13, rf_12_14, rf_12_15, rf_12_26, rf_12_27, rf_12_31, rf_12_32, rf_12_33, rf_12_34, rf_12_41, rf_12_44, rf_12_47, rf_12_48, rf_12_49, rf_12_51, rf_12_55, rf_12_56, rf_12_57, rf_12_58, rf_12_59, rf_12_60, Nat.reduceAdd, kc_419, kc_420, kc_421, kc_422, kc_423, kc_424, kc_425, kc_426, kc_427, kc_428, kc_429, kc_430, kc_431, kc_432, kc_433, kc_434, kc_435, kc_436, kc_437, kc_438, kc_439, kc_440, kc_441, kc_442, kc_443, kc_444, kc_445, kc_446, kc_447, kc_448, kc_449, kc_450, kc_451, kc_452, kc_453, kn_420, kn_421, kn_422, kn_423, kn_424, kn_425, kn_426, kn_427, kn_428, kn_429, kn_430, kn_431, kn_432, kn_433, kn_434, kn_435, kn_436, kn_437, kn_438, kn_439, kn_440, kn_441, kn_442, kn_443, kn_444, kn_445, kn_446, kn_447, kn_448, kn_449, kn_450, kn_451, kn_452, kn_453, h45]
      have f1 : Fr rQ s (sI s 419 46 (nI i)) := Fr_sI (by unfold rQ; omega)
      obtain ⟨s', b1, b2, b3, b4, b5⟩ := r_nh51 (N := N) (s := s) (K := K) (st := st) h W N i (sI s 419 46 (nI i)) (by omega) hi (RU_fr h f1) (by simp [sI_c])
      have h5 : s'.1 419 45 = nI i := by rw [b3]; simp [sI_c]; exact h45
      have h' := RU_fr (RU_fr h f1) b5
      have e1' : s'.1 422 1 = nI D := (h'.1 0 1 (by omega) (by omega)).trans W.2.2.2.2.1
      rw [b1]
      unfold bX12_nextHole_90
      simp (decide := true) only [ob_s, cS_l, cS_r, gI_k, gR_k, pI_k, pR_k, cV_k, aI_k, tI_k, rZ_0, rZ_1, rZ_i, rf_12_0, rf_12_1, rf_12_3, rf_12_4, rf_12_5, rf_12_6, rf_12_7, rf_12_8, rf_12_9, rf_12_10, rf_12_11, rf_12_12, rf_12_13, rf_12_14, rf_12_15, rf_12_26, rf_12_27, rf_12_31, rf_12_32, rf_12_33, rf_12_34, rf_12_41, rf_12_44, rf_12_47, rf_12_48, rf_12_49, rf_12_51, rf_12_55, rf_12_56, rf_12_57, rf_12_58, rf_12_59, rf_12_60, Nat.reduceAdd, kc_419, kc_420, kc_421, kc_422, kc_423, kc_424, kc_425, kc_426, kc_427, kc_428, kc_429, kc_430, kc_431, kc_432, kc_433, kc_434, kc_435, kc_436, kc_437, kc_438, kc_439, kc_440, kc_441, kc_442, kc_443, kc_444, kc_445, kc_446, kc_447, kc_448, kc_449, kc_450, kc_451, kc_452, kc_453, kn_420, kn_421, kn_422, kn_423, kn_424, kn_425, kn_426, kn_427, kn_428, kn_429, kn_430, kn_431, kn_432, kn_433, kn_434, kn_435, kn_436, kn_437, kn_438, kn_439, kn_440, kn_441, kn_442, kn_443, kn_444, kn_445, kn_446, kn_447, kn_448, kn_449, kn_450, kn_451, kn_452, kn_453, nc_1, e1', h5]
      refine ⟨s', i, ?_, hi, Nat.le_refl _, rfl, fun hj => ⟨?_, h5, ?_⟩, ?_, Fr_t f1 b5⟩
      · by_cases c : D ≤ i
        · rw [if_pos (nI_le c (by omega))]; simp [show ¬ i < D by omega, sk_i, rZ]
        · rw [if_neg (nI_ge (by omega) (by omega))]; simp [show i < D by omega, sk_i, rZ]
      · unfold bgn
        rw [hk hj]
        rcases hc.2 with g | g | g | g
        · simp [g]
        · simp [g]
        · omega
        · rw [hk hj] at g; cases g
      · rw [b2]
        unfold stays
        rw [hk hj]
      · rw [b4]; simp [sI_c]
    by_cases c : D ≤ i
    · rw [if_pos (nI_le c (by omega))]
      exact fin (fun q => by omega)
    · rw [if_neg (nI_ge (by omega) (by omega))]
      have ie : inB (nI i) 960 = true := inA_nI (by omega) (by omega)
      simp (decide := true) only [ob_s, cS_l, cS_r, gI_k, gR_k, pI_k, pR_k, cV_k, aI_k, tI_k, rZ_0, rZ_1, rZ_i, rf_12_0, rf_12_1, rf_12_3, rf_12_4, rf_12_5, rf_12_6, rf_12_7, rf_12_8, rf_12_9, rf_12_10, rf_12_11, rf_12_12, rf_12_13, rf_12_14, rf_12_15, rf_12_26, rf_12_27, rf_12_31, rf_12_32, rf_12_33, rf_12_34, rf_12_41, rf_12_44, rf_12_47, rf_12_48, rf_12_49, rf_12_51, rf_12_55, rf_12_56, rf_12_57, rf_12_58, rf_12_59, rf_12_60, Nat.reduceAdd, kc_419, kc_420, kc_421, kc_422, kc_423, kc_424, kc_425, kc_426, kc_427, kc_428, kc_429, kc_430, kc_431, kc_432, kc_433, kc_434, kc_435, kc_436, kc_437, kc_438, kc_439, kc_440, kc_441, kc_442, kc_443, kc_444, kc_445, kc_446, kc_447, kc_448, kc_449, kc_450, kc_451, kc_452, kc_453, kn_420, kn_421, kn_422, kn_423, kn_424, kn_425, kn_426, kn_427, kn_428, kn_429, kn_430, kn_431, kn_432, kn_433, kn_434, kn_435, kn_436, kn_437, kn_438, kn_439, kn_440, kn_441, kn_442, kn_443, kn_444, kn_445, kn_446, kn_447, kn_448, kn_449, kn_450, kn_451, kn_452, kn_453, ie, nI_clamp (show i < 2 ^ 31 by omega), h.2.2 i (by omega), sk_0, h45, nI_1]
      cases hk : K i
      · rw [if_neg (fun q => q rfl)]
        have f1 : Fr rQ s (sI s 419 45 (nI (i + 1))) := Fr_sI (by unfold rQ; omega)
        have hst : hl K D (D - i) i = hl K D (D - (i + 1)) (i + 1) := by
          obtain ⟨g, hg, hg2⟩ := sub1 (Nat.lt_of_not_le c)
          rw [hg, hl_s, if_neg (by unfold bgn; simp [hk]), hg2]
        obtain ⟨s', j, b1, b2, b3, b4, b5, b6, b7⟩ := ih (i + 1) (sI s 419 45 (nI (i + 1))) (by omega) ⟨by omega, Or.inr (Or.inl (by rw [show i + 1 - 1 = i by omega]; exact hk))⟩ (RU_fr h f1) (by simp [sI_c])
        exact ⟨s', j, b1, b2, by omega, hst.trans b4, b5, b6.trans (by simp [sI_c]), Fr_t f1 b7⟩
      · rw [if_pos (by decide)]
        exact fin (fun _ => hk)
theorem r_nextHole (hN1 : 1000 ≤ N) (W : Wp P n D mv) (h : RU s P st K) {i : Nat} (hc : cln K D i) : ∃ s' j, fX12_nextHole N 419 (nI i) (mk s) = some (.inl (sk_i (decide (j < D))), mk s') ∧ ((¬ j < D ∧ hl K D (D - i) i = []) ∨ (j < D ∧ i ≤ j ∧ s'.1 419 45 = nI j ∧ s'.1 419 46 = nI (j + stays K D j) ∧ hl K D (D - i) i = (j, stays K D j) :: hl K D (D - (j + stays K D j)) (j + stays K D j) ∧ cln K D (j + stays K D j) ∧ 1 ≤ stays K D j)) ∧ s'.1 419 2 = s.1 419 2 ∧ Fr rQ s s' := by
  have hD := W.2.2.2.1
  have f1 : Fr rQ s (sI s 419 45 (nI i)) := Fr_sI (by unfold rQ; omega)
  obtain ⟨s', j, b1, b2, b3, b4, b5, b6, b7⟩ := r_nh5 (N := N) (K := K) (st := st) W hN1 N i (sI s 419 45 (nI i)) (by omega) hc (RU_fr h f1) (by simp [sI_c])
  refine ⟨s', j, ?_, ?_, b6.trans (by simp [sI_c]), Fr_t f1 b7⟩
  · unfold fX12_nextHole bX12_nextHole_0
    simp (decide := true) only [ob_s, cS_l, cS_r, gI_k, gR_k, pI_k, pR_k, cV_k, aI_k, tI_k, rZ_0, rZ_1, rZ_i, rf_12_0, rf_12_1, rf_12_3, rf_12_4, rf_12_5, rf_12_6, rf_12_7, rf_12_8, rf_12_9, rf_12_10, rf_12_11, rf_12_12, rf_12_13, rf_12_14, rf_12_15, rf_12_26, rf_12_27, rf_12_31, rf_12_32, rf_12_33, rf_12_34, rf_12_41, rf_12_44, rf_12_47, rf_12_48, rf_12_49, rf_12_51, rf_12_55, rf_12_56, rf_12_57, rf_12_58, rf_12_59, rf_12_60, Nat.reduceAdd, kc_419, kc_420, kc_421, kc_422, kc_423, kc_424, kc_425, kc_426, kc_427, kc_428, kc_429, kc_430, kc_431, kc_432, kc_433, kc_434, kc_435, kc_436, kc_437, kc_438, kc_439, kc_440, kc_441, kc_442, kc_443, kc_444, kc_445, kc_446, kc_447, kc_448, kc_449, kc_450, kc_451, kc_452, kc_453, kn_420, kn_421, kn_422, kn_423, kn_424, kn_425, kn_426, kn_427, kn_428, kn_429, kn_430, kn_431, kn_432, kn_433, kn_434, kn_435, kn_436, kn_437, kn_438, kn_439, kn_440, kn_441, kn_442, kn_443, kn_444, kn_445, kn_446, kn_447, kn_448, kn_449, kn_450, kn_451, kn_452, kn_453]
    exact b1
  · by_cases c : j < D
    · right
      obtain ⟨g1, g2, g3⟩ := b5 c
      have hk : K j = true := by unfold bgn at g1; simp only [Bool.and_eq_true] at g1; exact g1.1
      have hp := stays_pos (K := K) c
      have hle := stays_le (K := K) b2
      refine ⟨c, b3, g2, g3, ?_, ⟨hle, ?_⟩, hp⟩
      · obtain ⟨g, hg⟩ : ∃ g, D - j = g + 1 := ⟨D - j - 1, by omega⟩
        rw [b4, hg, hl_s, if_pos g1]
        congr 1
        have hrun : ∀ i', i' < stays K D j → K (j + i') = true := fun i' hi' => by
          have := rl_run K (K j) (D - j) j i' hi'
          rw [this, hk]
        have := hl_run (K := K) (D := D) (stays K D j - 1) (j + 1) (fun i' hi' => by rw [show j + 1 + i' = j + (i' + 1) by omega]; exact hrun (i' + 1) (by omega)) (fun e => by omega) (fun _ => by rw [show j + 1 - 1 = j by omega]; exact hk) (by omega)
        rw [show g = D - (j + 1) by omega, this, show j + 1 + (stays K D j - 1) = j + stays K D j by omega]
      · by_cases e : j + stays K D j = D
        · exact Or.inr (Or.inr (Or.inl e))
        · right; right; right
          have := rl_stop K (K j) (D - j) j (by unfold stays at hle e; omega)
          have h9 : K (j + stays K D j) ≠ K j := this
          rw [hk] at h9
          simpa using h9
    · left
      refine ⟨c, ?_⟩
      rw [b4, show D - j = 0 by omega]
      rfl
theorem r_holes27 (hN1 : 1000 ≤ N) (W : Wp P n D mv) (hw : w ≤ 480) : ∀ (f i c : Nat) (s : sg), D - i < f → c ≤ i → cln K D i → RU s P st K → s.1 419 2 = 0 → ∃ s', lX12_holes_27 N f 419 (nI w) (nI c) (nI i) (mk s) = some (.inl (nI (c + cH w (hl K D (D - i) i))), mk s') ∧ s'.1 419 2 = 0 ∧ Fr rQ s s' := by
  have hD := W.2.2.2.1
  intro f
  induction f with
  | zero => intro i c s hf; omega
  | succ f ih =>
    intro i c s hf hci hc h h2
    show ∃ s', bX12_holes_27 N (lX12_holes_27 N f) 419 (nI w) (nI c) (nI i) (mk s) = _ ∧ _
    obtain ⟨s1, j, b1, b2, b3, b4⟩ := r_nextHole (N := N) hN1 W h hc
    unfold bX12_holes_27
    simp (decide := true) only [ob_s, cS_l, cS_r, gI_k, gR_k, pI_k, pR_k, cV_k, aI_k, tI_k, rZ_0, rZ_1, rZ_i, rf_12_0, rf_12_1, rf_12_3, rf_12_4, rf_12_5, rf_12_6, rf_12_7, rf_12_8, rf_12_9, rf_12_10, rf_12_11, rf_12_12, rf_12_13, rf_12_14, rf_12_15, rf_12_26, rf_12_27, rf_12_31, rf_12_32, rf_12_33, rf_12_34, rf_12_41, rf_12_44, rf_12_47, rf_12_48, rf_12_49, rf_12_51, rf_12_55, rf_12_56, rf_12_57, rf_12_58, rf_12_59, rf_12_60, Nat.reduceAdd, kc_419, kc_420, kc_421, kc_422, kc_423, kc_424, kc_425, kc_426, kc_427, kc_428, kc_429, kc_430, kc_431, kc_432, kc_433, kc_434, kc_435, kc_436, kc_437, kc_438, kc_439, kc_440, kc_441, kc_442, kc_443, kc_444, kc_445, kc_446, kc_447, kc_448, kc_449, kc_450, kc_451, kc_452, kc_453, kn_420, kn_421, kn_422, kn_423, kn_424, kn_425, kn_426, kn_427, kn_428, kn_429, kn_430, kn_431, kn_432, kn_433, kn_434, kn_435, kn_436, kn_437, kn_438, kn_439, kn_440, kn_441, kn_442, kn_443, kn_444, kn_445, kn_446, kn_447, kn_448, kn_449, kn_450, kn_451, kn_452, kn_453, b1, sk_0]
    rcases b2 with ⟨c1, c2⟩ | ⟨c1, c2, c3, c4, c5, c6, c7⟩
    · rw [if_pos (by simp [c1]), c2]
      exact ⟨s1, rfl, b3.trans h2, b4⟩
    · rw [if_neg (by simp [c1])]
      have hle := c6.1
      have e : nI (j + stays K D j) - nI j = nI (stays K D j) := by rw [nI_sub (by omega), Nat.add_sub_cancel_left]
      simp (decide := true) only [ob_s, cS_l, cS_r, gI_k, gR_k, pI_k, pR_k, cV_k, aI_k, tI_k, rZ_0, rZ_1, rZ_i, rf_12_0, rf_12_1, rf_12_3, rf_12_4, rf_12_5, rf_12_6, rf_12_7, rf_12_8, rf_12_9, rf_12_10, rf_12_11, rf_12_12, rf_12_13, rf_12_14, rf_12_15, rf_12_26, rf_12_27, rf_12_31, rf_12_32, rf_12_33, rf_12_34, rf_12_41, rf_12_44, rf_12_47, rf_12_48, rf_12_49, rf_12_51, rf_12_55, rf_12_56, rf_12_57, rf_12_58, rf_12_59, rf_12_60, Nat.reduceAdd, kc_419, kc_420, kc_421, kc_422, kc_423, kc_424, kc_425, kc_426, kc_427, kc_428, kc_429, kc_430, kc_431, kc_432, kc_433, kc_434, kc_435, kc_436, kc_437, kc_438, kc_439, kc_440, kc_441, kc_442, kc_443, kc_444, kc_445, kc_446, kc_447, kc_448, kc_449, kc_450, kc_451, kc_452, kc_453, kn_420, kn_421, kn_422, kn_423, kn_424, kn_425, kn_426, kn_427, kn_428, kn_429, kn_430, kn_431, kn_432, kn_433, kn_434, kn_435, kn_436, kn_437, kn_438, kn_439, kn_440, kn_441, kn_442, kn_443, kn_444, kn_445, kn_446, kn_447, kn_448, kn_449, kn_450, kn_451, kn_452, kn_453, c3, c4, e]
      have nxt : ∀ x : Nat, x = (if w ≤ stays K D j then 1 else 0) → ∃ s', bX12_holes_54 N (lX12_holes_27 N f) 419 (nI w) (nI c) (nI x) (mk s1) = some (.inl (nI (c + cH w (hl K D (D - i) i))), mk s') ∧ s'.1 419 2 = 0 ∧ Fr rQ s s' := by
        intro x hx
        unfold bX12_holes_54
        simp (decide := true) only [ob_s, cS_l, cS_r, gI_k, gR_k, pI_k, pR_k, cV_k, aI_k, tI_k, rZ_0, rZ_1, rZ_i, rf_12_0, rf_12_1, rf_12_3, rf_12_4, rf_12_5, rf_12_6, rf_12_7, rf_12_8, rf_12_9, rf_12_10, rf_12_11, rf_12_12, rf_12_13, rf_12_14, rf_12_15, rf_12_26, rf_12_27, rf_12_31, rf_12_32, rf_12_33, rf_12_34, rf_12_41, rf_12_44, rf_12_47, rf_12_48, rf_12_49, rf_12_51, rf_12_55, rf_12_56, rf_12_57, rf_12_58, rf_12_59, rf_12_60, Nat.reduceAdd, kc_419, kc_420, kc_421, kc_422, kc_423, kc_424, kc_425, kc_426, kc_427, kc_428, kc_429, kc_430, kc_431, kc_432, kc_433, kc_434, kc_435, kc_436, kc_437, kc_438, kc_439, kc_440, kc_441, kc_442, kc_443, kc_444, kc_445, kc_446, kc_447, kc_448, kc_449, kc_450, kc_451, kc_452, kc_453, kn_420, kn_421, kn_422, kn_423, kn_424, kn_425, kn_426, kn_427, kn_428, kn_429, kn_430, kn_431, kn_432, kn_433, kn_434, kn_435, kn_436, kn_437, kn_438, kn_439, kn_440, kn_441, kn_442, kn_443, kn_444, kn_445, kn_446, kn_447, kn_448, kn_449, kn_450, kn_451, kn_452, kn_453, c4, nI_add]
        have hx1 : x ≤ 1 := by rw [hx]; split <;> omega
        obtain ⟨s2, d1, d2, d3⟩ := ih (j + stays K D j) (c + x) s1 (by omega) (by omega) c6 (RU_fr h b4) (b3.trans h2)
        refine ⟨s2, ?_, d2, Fr_t b4 d3⟩
        rw [d1, c5, cH_c, ← hx, Nat.add_assoc]
      by_cases g : stays K D j < w
      · rw [if_pos (nI_lt g (by omega))]
        exact nxt 0 (by rw [if_neg (by omega)])
      · rw [if_neg (nI_nlt (by omega) (by omega))]
        exact nxt 1 (by rw [if_pos (by omega)])
theorem cln_0 (K : Nat → Bool) (D : Nat) : cln K D 0 := ⟨by omega, Or.inl rfl⟩
theorem r_holes (hN1 : 1000 ≤ N) (W : Wp P n D mv) (h : RU s P st K) (hw : w < 480) : ∃ s', fX12_holes N 419 (nI (w + 1)) (mk s) = some (.inl (nI (cH (w + 1) (hl K D D 0))), mk s') ∧ s'.1 419 2 = 0 ∧ Fr rQ s s' := by
  have hD := W.2.2.2.1
  have f1 : Fr rQ s (sI s 419 2 0) := Fr_sI (by unfold rQ; omega)
  obtain ⟨s', a1, a2, a3⟩ := r_holes27 (N := N) (w := w + 1) hN1 W (by omega) N 0 0 (sI s 419 2 0) (by omega) (by omega) (cln_0 K D) (RU_fr h f1) (by simp [sI_c])
  rw [nI0, Nat.zero_add, show D - 0 = D by omega] at a1
  refine ⟨s', ?_, a2, Fr_t f1 a3⟩
  have h1 : (1 : Int64) = (1 : Int32).toInt64 := by decide
  have h480 : (480 : Int64) = (480 : Int32).toInt64 := by decide
  have hin : sb ((1 : Int32) ≤ nI (w + 1) ∧ nI (w + 1) ≤ 480) = 1 := sb_pos ⟨nI_le (a := 1) (by omega) (by omega), nI_le (b := 480) (by omega) (by omega)⟩
  unfold fX12_holes bX12_holes_0
  simp (decide := true) only [ob_s, cS_l, cS_r, gI_k, gR_k, pI_k, pR_k, cV_k, aI_k, tI_k, rZ_0, rZ_1, rZ_i, rf_12_0, rf_12_1, rf_12_3, rf_12_4, rf_12_5, rf_12_6, rf_12_7, rf_12_8, rf_12_9, rf_12_10, rf_12_11, rf_12_12, rf_12_13, rf_12_14, rf_12_15, rf_12_26, rf_12_27, rf_12_31, rf_12_32, rf_12_33, rf_12_34, rf_12_41, rf_12_44, rf_12_47, rf_12_48, rf_12_49, rf_12_51, rf_12_55, rf_12_56, rf_12_57, rf_12_58, rf_12_59, rf_12_60, Nat.reduceAdd, kc_419, kc_420, kc_421, kc_422, kc_423, kc_424, kc_425, kc_426, kc_427, kc_428, kc_429, kc_430, kc_431, kc_432, kc_433, kc_434, kc_435, kc_436, kc_437, kc_438, kc_439, kc_440, kc_441, kc_442, kc_443, kc_444, kc_445, kc_446, kc_447, kc_448, kc_449, kc_450, kc_451, kc_452, kc_453, kn_420, kn_421, kn_422, kn_423, kn_424, kn_425, kn_426, kn_427, kn_428, kn_429, kn_430, kn_431, kn_432, kn_433, kn_434, kn_435, kn_436, kn_437, kn_438, kn_439, kn_440, kn_441, kn_442, kn_443, kn_444, kn_445, kn_446, kn_447, kn_448, kn_449, kn_450, kn_451, kn_452, kn_453, m_isIn, h1, h480, i64_le, hin]
  exact a1
theorem r_holes' {x : Int32} (hx : ¬ (1 ≤ x ∧ x ≤ 480)) : fX12_holes N 419 x (mk s) = some (.inl 0, mk (sI (sI s 419 2 0) 419 2 1)) := by
  have h1 : (1 : Int64) = (1 : Int32).toInt64 := by decide
  have h480 : (480 : Int64) = (480 : Int32).toInt64 := by decide
  unfold fX12_holes bX12_holes_0
  simp (decide := true) only [ob_s, cS_l, cS_r, gI_k, gR_k, pI_k, pR_k, cV_k, aI_k, tI_k, rZ_0, rZ_1, rZ_i, rf_12_0, rf_12_1, rf_12_3, rf_12_4, rf_12_5, rf_12_6, rf_12_7, rf_12_8, rf_12_9, rf_12_10, rf_12_11, rf_12_12, rf_12_13, rf_12_14, rf_12_15, rf_12_26, rf_12_27, rf_12_31, rf_12_32, rf_12_33, rf_12_34, rf_12_41, rf_12_44, rf_12_47, rf_12_48, rf_12_49, rf_12_51, rf_12_55, rf_12_56, rf_12_57, rf_12_58, rf_12_59, rf_12_60, Nat.reduceAdd, kc_419, kc_420, kc_421, kc_422, kc_423, kc_424, kc_425, kc_426, kc_427, kc_428, kc_429, kc_430, kc_431, kc_432, kc_433, kc_434, kc_435, kc_436, kc_437, kc_438, kc_439, kc_440, kc_441, kc_442, kc_443, kc_444, kc_445, kc_446, kc_447, kc_448, kc_449, kc_450, kc_451, kc_452, kc_453, kn_420, kn_421, kn_422, kn_423, kn_424, kn_425, kn_426, kn_427, kn_428, kn_429, kn_430, kn_431, kn_432, kn_433, kn_434, kn_435, kn_436, kn_437, kn_438, kn_439, kn_440, kn_441, kn_442, kn_443, kn_444, kn_445, kn_446, kn_447, kn_448, kn_449, kn_450, kn_451, kn_452, kn_453, m_isIn, h1, h480, i64_le, sb_neg hx, r_bad1, if_false]
/-! the greatest common measure -/
theorem lN_tI {x : Nat} (h : x < 2 ^ 62) : (lN x).toInt = (x : Int) := by
  exact lg_ofNat_toInt (by omega)
theorem lN_eq0 {x : Nat} (h : x < 2 ^ 62) : lN x = 0 ↔ x = 0 := by
  constructor
  · intro q
    have := congrArg Int64.toInt q
    rw [lN_tI h] at this
    have e : (0 : Int64).toInt = 0 := by decide
    omega
  · intro q; rw [q]; rfl
theorem lN_div {x y : Nat} (hx : x < 2 ^ 62) (hy : y < 2 ^ 62) (h0 : 0 < y) : lN x / lN y = lN (x / y) := by
  have h1 : lN y ≠ -1 := by
    intro q
    have := congrArg Int64.toInt q
    rw [lN_tI hy] at this
    have e : (-1 : Int64).toInt = -1 := by decide
    omega
  apply Int64.toInt_inj.mp
  rw [Int64.toInt_div_of_ne_right _ _ h1, lN_tI hx, lN_tI hy, lN_tI (Nat.lt_of_le_of_lt (Nat.div_le_self x y) hx)]
  rfl
theorem dvL_N {x y : Nat} (hx : x < 2 ^ 62) (hy : y < 2 ^ 62) (h0 : 0 < y) : dvL (lN x) (lN y) = some (lN (x / y)) := by
  unfold dvL
  rw [if_neg (fun q => by have := (lN_eq0 hy).mp q; omega), lN_div hx hy h0]
theorem rmL_N {x y : Nat} (hx : x < 2 ^ 62) (hy : y < 2 ^ 62) (h0 : 0 < y) : rmL (lN x) (lN y) = some (lN (x % y)) := by
  unfold rmL
  rw [if_neg (fun q => by have := (lN_eq0 hy).mp q; omega), lN_div hx hy h0, lN_mul, lN_sub (Nat.div_mul_le_self x y)]
  congr 2
  have := Nat.div_add_mod x y
  rw [Nat.mul_comm] at this
  omega
theorem lc_z {x : Int64} : lg_cmp x 0 = 0 ↔ x = 0 := by
  unfold lg_cmp
  by_cases h : x > 0
  · rw [if_pos h]
    exact ⟨fun q => absurd q (by decide), fun q => by rw [q] at h; exact absurd h (by decide)⟩
  · rw [if_neg h]
    by_cases h2 : x = 0
    · rw [if_pos h2]; exact ⟨fun _ => h2, fun _ => rfl⟩
    · rw [if_neg h2]
      exact ⟨fun q => absurd q (by decide), fun q => absurd q h2⟩
theorem half_rem {x y : Nat} (hy : 0 < y) (hr : 0 < x % y) : 2 * (y % (x % y)) < y := by
  have h1 := Nat.mod_lt x hy
  have h2 := Nat.mod_lt y hr
  have h3 := Nat.div_add_mod y (x % y)
  have h4 : 1 ≤ y / (x % y) := (Nat.one_le_div_iff hr).mpr (by omega)
  have h5 : x % y * 1 ≤ x % y * (y / (x % y)) := Nat.mul_le_mul_left _ h4
  omega
theorem gcd_2 (x y : Nat) : Nat.gcd (x % y) (y % (x % y)) = Nat.gcd x y := by
  rw [Nat.gcd_comm x y, Nat.gcd_rec y x, Nat.gcd_rec (x % y) y, Nat.gcd_comm]
theorem r_common6 {c : mm_C} : ∀ (k f x y : Nat), 2 * k < f → y < 2 ^ k → x < 2 ^ 62 → y < 2 ^ 62 → lX12_common_6 N f (lN x) (lN y) c = some (.inl (lN (Nat.gcd x y)), c)
  | k, 0, x, y, hf, _, _, _ => by omega
  | 0, f + 1, x, y, _, hy, _, _ => by
    have e : y = 0 := by simpa using hy
    subst e
    show bX12_common_6 N (lX12_common_6 N f) (lN x) (lN 0) c = _
    unfold bX12_common_6 bX12_common_31
    rw [if_pos (lc_z.mpr (show lN 0 = 0 from rfl)), Nat.gcd_zero_right]
  | k + 1, f + 1, x, y, hf, hy, hx2, hy2 => by
    show bX12_common_6 N (lX12_common_6 N f) (lN x) (lN y) c = _
    unfold bX12_common_6 bX12_common_31
    by_cases e : y = 0
    · subst e; rw [if_pos (lc_z.mpr (show lN 0 = 0 from rfl)), Nat.gcd_zero_right]
    · rw [if_neg (fun q => e ((lN_eq0 hy2).mp (lc_z.mp q))), rmL_N hx2 hy2 (by omega)]
      simp only [ob_s]
      obtain ⟨f', rfl⟩ : ∃ f', f = f' + 1 := ⟨f - 1, by omega⟩
      show bX12_common_6 N (lX12_common_6 N f') (lN y) (lN (x % y)) c = _
      have hr := Nat.mod_lt x (show 0 < y by omega)
      unfold bX12_common_6 bX12_common_31
      by_cases e2 : x % y = 0
      · rw [if_pos (lc_z.mpr ((lN_eq0 (by omega)).mpr e2)), Nat.gcd_comm, Nat.gcd_rec, e2, Nat.gcd_zero_left]
      · rw [if_neg (fun q => e2 ((lN_eq0 (by omega)).mp (lc_z.mp q))), rmL_N hy2 (by omega) (by omega)]
        simp only [ob_s]
        have hh := half_rem (show 0 < y by omega) (show 0 < x % y by omega)
        have h2 := Nat.mod_lt y (show 0 < x % y by omega)
        have hp : 2 ^ (k + 1) = 2 * 2 ^ k := by rw [Nat.pow_succ]; omega
        rw [r_common6 k f' (x % y) (y % (x % y)) (by omega) (by omega) (by omega) (by omega)]
        rw [gcd_2]
theorem c_low10 {v0 : Int64} {c : mm_C} : ∀ (k f i x y : Nat), 2 * k < f → i + 2 * k < 100 → y < 2 ^ k → x < 2 ^ 62 → y < 2 ^ 62 → lX11_lowered_10 N f v0 (lN x) (lN y) (nI i) c = bX11_lowered_45 N v0 (lN (Nat.gcd x y)) c
  | k, 0, i, x, y, hf, _, _, _, _ => by omega
  | 0, f + 1, i, x, y, _, hi, hy, _, _ => by
    have e : y = 0 := by simpa using hy
    subst e
    show bX11_lowered_10 N (lX11_lowered_10 N f) v0 (lN x) (lN 0) (nI i) c = _
    unfold bX11_lowered_10
    rw [if_neg (show ¬ (100 : Int32) ≤ nI i from nI_ge (b := 100) (by omega) (by omega)), if_pos (lc_z.mpr (show lN 0 = 0 from rfl)), Nat.gcd_zero_right]
  | k + 1, f + 1, i, x, y, hf, hi, hy, hx2, hy2 => by
    show bX11_lowered_10 N (lX11_lowered_10 N f) v0 (lN x) (lN y) (nI i) c = _
    unfold bX11_lowered_10
    rw [if_neg (show ¬ (100 : Int32) ≤ nI i from nI_ge (b := 100) (by omega) (by omega))]
    by_cases e : y = 0
    · subst e; rw [if_pos (lc_z.mpr (show lN 0 = 0 from rfl)), Nat.gcd_zero_right]
    · rw [if_neg (fun q => e ((lN_eq0 hy2).mp (lc_z.mp q))), rmL_N hx2 hy2 (by omega)]
      simp only [ob_s]
      obtain ⟨f', rfl⟩ : ∃ f', f = f' + 1 := ⟨f - 1, by omega⟩
      show bX11_lowered_10 N (lX11_lowered_10 N f') v0 (lN y) (lN (x % y)) (nI i + 1) c = _
      have hr := Nat.mod_lt x (show 0 < y by omega)
      unfold bX11_lowered_10
      rw [nI_1, if_neg (show ¬ (100 : Int32) ≤ nI (i + 1) from nI_ge (b := 100) (by omega) (by omega))]
      by_cases e2 : x % y = 0
      · rw [if_pos (lc_z.mpr ((lN_eq0 (by omega)).mpr e2)), Nat.gcd_comm, Nat.gcd_rec, e2, Nat.gcd_zero_left]
      · rw [if_neg (fun q => e2 ((lN_eq0 (by omega)).mp (lc_z.mp q))), rmL_N hy2 (by omega) (by omega)]
        simp only [ob_s]
        have hh := half_rem (show 0 < y by omega) (show 0 < x % y by omega)
        have h2 := Nat.mod_lt y (show 0 < x % y by omega)
        have hp : 2 ^ (k + 1) = 2 * 2 ^ k := by rw [Nat.pow_succ]; omega
        rw [nI_1, c_low10 k f' (i + 1 + 1) (x % y) (y % (x % y)) (by omega) (by omega) (by omega) (by omega) (by omega)]
        rw [gcd_2]
theorem r_common {c : mm_C} {x y : Nat} (hN1 : 1000 ≤ N) (hx : x < 2 ^ 32) (hy : y < 2 ^ 32) : fX12_common N (lN x) (lN y) c = some (.inl (lN (Nat.gcd x y)), c) := r_common6 32 N x y (by omega) hy (by omega) (by omega)
theorem c_lowered {c : mm_C} {z x y : Nat} (hN1 : 1000 ≤ N) (hz : z < 2 ^ 32) (hx : x < 2 ^ 32) (hy : y < 2 ^ 32) (h0 : 0 < Nat.gcd x y) : fX11_lowered N (lN z) (lN x) (lN y) c = some (.inl (lN (z / Nat.gcd x y)), c) := by
  have h := c_low10 (N := N) (v0 := lN z) (c := c) 32 N 0 x y (by omega) (by omega) hy (by omega) (by omega)
  unfold fX11_lowered bX11_lowered_0
  rw [show (0 : Int32) = nI 0 from rfl, h]
  have hg : Nat.gcd x y < 2 ^ 62 := by
    rcases Nat.eq_zero_or_pos y with e | e
    · rw [e, Nat.gcd_zero_right]; omega
    · have := Nat.le_of_dvd e (Nat.gcd_dvd_right x y); omega
  unfold bX11_lowered_45 bX11_lowered_60
  rw [if_pos (fun q => by have := (lN_eq0 hg).mp (lc_z.mp q); omega), dvL_N (by omega) hg h0]
  rfl
/-! the mean hole, the longest -/
def fH (t : Nat × Nat × Nat × Int32) (q : Nat × Nat) : Nat × Nat × Nat × Int32 := (t.1 + 1, t.2.1 + q.2, if t.2.2.1 < q.2 then (q.2, nI q.1) else t.2.2)
def aHole (w : Nat) (t : Nat × Nat × Nat × Int32) : Int32 := if w = 0 then (if t.1 = 0 then 0 else nI (t.2.1 / Nat.gcd t.2.1 t.1)) else if w = 1 then (if t.1 = 0 then 1 else nI (t.1 / Nat.gcd t.2.1 t.1)) else if w = 2 then nI t.2.2.1 else t.2.2.2
set_option maxRecDepth 8000 in
theorem c_hole22 (hN1 : 1000 ≤ N) (h : CQ s p P n D mv st K) (hO : OLk s 381 p 38 D K) (hD : D ≤ 480) (hw : w ≤ 3) : ∀ (f i c d g : Nat) (x : Int32), D - i < f → i ≤ D → c ≤ i → d ≤ i * 480 → g ≤ 480 → (c = 0 → d = 0) → lX11_hole_22 N f 0 (nI w) (nI c) (nI d) (nI g) x (nI i) (mk s) = some (.inl (aHole w ((hl K D (D - i) i).foldl fH (c, d, g, x))), mk s) := by
  have hpO := plA_O h.1
  intro f
  induction f with
  | zero => intro i c d g x hf; omega
  | succ f ih =>
    intro i c d g x hf hi hc hd hg hcd
    show bX11_hole_22 N (lX11_hole_22 N f) 0 (nI w) (nI c) (nI d) (nI g) x (nI i) (mk s) = _
    unfold bX11_hole_22
    simp (decide := true) only [ob_s, cS_l, cS_r, gI_k, gR_k, pI_k, pR_k, cV_k, aI_k, tI_k, rZ_0, rZ_1, rZ_i, aR_24, aR_25, aZ_k, tZ_k, rf_3_6, rf_3_7, rf_3_8, rf_5_0, rf_5_1, rf_5_3, rf_5_4, rf_5_5, rf_5_7, rf_6_4, rf_6_11, rf_1_0, rf_1_1, rf_0_6, rf_9_7, rf_9_8, rf_8_0, rf_11_0, rf_11_5, rf_11_6, rf_11_7, rf_11_9, rf_11_10, rf_11_11, rf_11_12, rf_11_3, rf_11_4, Nat.reduceAdd, Nat.zero_add, kc_0, kc_1, kc_34, kc_35, kc_36, kc_37, kc_38, kc_39, kc_40, kc_41, kc_42, kc_43, kc_44, kc_45, kc_46, kc_207, kc_208, kc_209, kc_210, kc_211, kc_212, kc_213, kc_214, kc_215, kc_216, kc_377, kc_378, kc_379, kc_380, kc_381, kc_382, kc_383, kc_384, kc_385, kc_386, kc_387, kc_388, kc_389, kc_390, kc_391, kc_392, kc_393, kc_394, kc_395, kc_414, kc_415, kc_416, kc_417, kc_418, kn_1, kn_36, kn_39, kn_41, kn_42, kn_43, kn_44, kn_45, kn_46, kn_209, kn_211, kn_212, kn_213, kn_214, kn_215, kn_216, kn_378, kn_380, kn_382, kn_383, kn_385, kn_386, kn_388, kn_390, kn_392, kn_393, kn_395, kn_414, kn_415, kn_417, kn_418, h.2.1, hpO.1, h.2.2.1.1]
    by_cases c1 : D ≤ i
    · rw [if_pos (nI_le c1 (by omega)), show D - i = 0 by omega]
      have hd2 : d < 2 ^ 31 := by omega
      unfold bX11_hole_87
      show _ = some (Sum.inl (aHole w (c, d, g, x)), mk s)
      rw [nI_l hd2, nI_l (show c < 2 ^ 31 by omega)]
      unfold aHole
      rcases (show w = 0 ∨ w = 1 ∨ w = 2 ∨ w = 3 by omega) with rfl | rfl | rfl | rfl
      · rw [if_pos (by rfl)]
        by_cases e : c = 0
        · subst e; simp [nI0]
        · rw [if_pos (nI_ne0 (by omega) (by omega)), c_lowered hN1 (by omega) (by omega) (by omega) (Nat.gcd_pos_of_pos_right _ (by omega))]
          simp [e, lN_i, cS_l]
      · rw [if_neg (by decide), if_pos (by rfl)]
        by_cases e : c = 0
        · subst e; simp [nI0]
        · rw [if_pos (nI_ne0 (by omega) (by omega)), c_lowered hN1 (by omega) (by omega) (by omega) (Nat.gcd_pos_of_pos_right _ (by omega))]
          simp [e, lN_i, cS_l]
      · rw [if_neg (by decide), if_neg (by decide), if_pos (by rfl)]; simp
      · rw [if_neg (by decide), if_neg (by decide), if_neg (by decide)]; simp
    · rw [if_neg (nI_ge (by omega) (by omega))]
      obtain ⟨g', hg'⟩ : ∃ g', D - i = g' + 1 := ⟨D - i - 1, by omega⟩
      have i1 : inB (nI i) 481 = true := inA_nI (by omega) (by omega)
      have hsl := stays_le (K := K) (show i ≤ D by omega)
      simp (decide := true) only [ob_s, cS_l, cS_r, gI_k, gR_k, pI_k, pR_k, cV_k, aI_k, tI_k, rZ_0, rZ_1, rZ_i, aR_24, aR_25, aZ_k, tZ_k, rf_3_6, rf_3_7, rf_3_8, rf_5_0, rf_5_1, rf_5_3, rf_5_4, rf_5_5, rf_5_7, rf_6_4, rf_6_11, rf_1_0, rf_1_1, rf_0_6, rf_9_7, rf_9_8, rf_8_0, rf_11_0, rf_11_5, rf_11_6, rf_11_7, rf_11_9, rf_11_10, rf_11_11, rf_11_12, rf_11_3, rf_11_4, Nat.reduceAdd, Nat.zero_add, kc_0, kc_1, kc_34, kc_35, kc_36, kc_37, kc_38, kc_39, kc_40, kc_41, kc_42, kc_43, kc_44, kc_45, kc_46, kc_207, kc_208, kc_209, kc_210, kc_211, kc_212, kc_213, kc_214, kc_215, kc_216, kc_377, kc_378, kc_379, kc_380, kc_381, kc_382, kc_383, kc_384, kc_385, kc_386, kc_387, kc_388, kc_389, kc_390, kc_391, kc_392, kc_393, kc_394, kc_395, kc_414, kc_415, kc_416, kc_417, kc_418, kn_1, kn_36, kn_39, kn_41, kn_42, kn_43, kn_44, kn_45, kn_46, kn_209, kn_211, kn_212, kn_213, kn_214, kn_215, kn_216, kn_378, kn_380, kn_382, kn_383, kn_385, kn_386, kn_388, kn_390, kn_392, kn_393, kn_395, kn_414, kn_415, kn_417, kn_418, c_begins hO (show i < D by omega) hD, sk_0, i1, nI_clamp (show i < 2 ^ 31 by omega), (hO.2.2.2 i (by omega) (by omega)).1, nI_add]
      unfold bX11_hole_81
      rw [nI_1, nI_1, hg', hl_s]
      cases hb : bgn K i
      · rw [if_pos rfl, if_neg (by decide), ih (i + 1) c d g x (by omega) (by omega) (by omega) (by omega) hg hcd, show D - (i + 1) = g' by omega]
      · rw [if_neg (by decide), if_pos rfl, List.foldl_cons]
        by_cases c2 : stays K D i ≤ g
        · rw [if_pos (nI_le c2 (by omega)), ih (i + 1) (c + 1) (d + stays K D i) g x (by omega) (by omega) (by omega) (by omega) hg (by omega), show D - (i + 1) = g' by omega]
          unfold fH
          simp only [if_neg (show ¬ g < stays K D i by omega)]
        · rw [if_neg (nI_ge (by omega) (by omega)), ih (i + 1) (c + 1) (d + stays K D i) (stays K D i) (nI i) (by omega) (by omega) (by omega) (by omega) (by omega) (by omega), show D - (i + 1) = g' by omega]
          unfold fH
          simp only [if_pos (show g < stays K D i by omega)]
theorem c_hole (hN1 : 1000 ≤ N) (h : CQ s p P n D mv st K) (hn : n ≤ 8) (hD : D ≤ 480) (hw : w ≤ 3) : ∃ s', fX11_hole N 0 (nI w) (mk s) = some (.inl (aHole w ((hl K D D 0).foldl fH (0, 0, 0, -1))), mk s') ∧ Fr cQ s s' := by
  obtain ⟨s1, a1, a2, a3⟩ := c_look (N := N) hN1 h hD
  have f1 : Fr cQ s s1 := Fr_m a3 (fun x j => oD_cQ)
  refine ⟨s1, ?_, f1⟩
  have := c_hole22 (N := N) (w := w) hN1 (CQ_fr h hn f1) a2 hD hw N 0 0 0 0 (-1) (by omega) (by omega) (by omega) (by omega) (by omega) (by omega)
  rw [nI0, show D - 0 = D by omega] at this
  unfold fX11_hole bX11_hole_0
  simp (decide := true) only [ob_s, cS_l, cS_r, gI_k, gR_k, pI_k, pR_k, cV_k, aI_k, tI_k, rZ_0, rZ_1, rZ_i, aR_24, aR_25, aZ_k, tZ_k, rf_3_6, rf_3_7, rf_3_8, rf_5_0, rf_5_1, rf_5_3, rf_5_4, rf_5_5, rf_5_7, rf_6_4, rf_6_11, rf_1_0, rf_1_1, rf_0_6, rf_9_7, rf_9_8, rf_8_0, rf_11_0, rf_11_5, rf_11_6, rf_11_7, rf_11_9, rf_11_10, rf_11_11, rf_11_12, rf_11_3, rf_11_4, Nat.reduceAdd, Nat.zero_add, kc_0, kc_1, kc_34, kc_35, kc_36, kc_37, kc_38, kc_39, kc_40, kc_41, kc_42, kc_43, kc_44, kc_45, kc_46, kc_207, kc_208, kc_209, kc_210, kc_211, kc_212, kc_213, kc_214, kc_215, kc_216, kc_377, kc_378, kc_379, kc_380, kc_381, kc_382, kc_383, kc_384, kc_385, kc_386, kc_387, kc_388, kc_389, kc_390, kc_391, kc_392, kc_393, kc_394, kc_395, kc_414, kc_415, kc_416, kc_417, kc_418, kn_1, kn_36, kn_39, kn_41, kn_42, kn_43, kn_44, kn_45, kn_46, kn_209, kn_211, kn_212, kn_213, kn_214, kn_215, kn_216, kn_378, kn_380, kn_382, kn_383, kn_385, kn_386, kn_388, kn_390, kn_392, kn_393, kn_395, kn_414, kn_415, kn_417, kn_418, show (3 : Int32) = nI 3 from rfl, c_reqWhat (l := 3) hw (by omega), a1]
  exact this
theorem c_hole' {x : Int32} (hx : x < 0 ∨ (¬ x < 0 ∧ nI 4 ≤ x)) : fX11_hole N 0 x (mk s) = some (.inr 1, mk s) := by
  unfold fX11_hole bX11_hole_0
  rw [show (3 : Int32) = nI 3 from rfl, c_reqWhat' (l := 3) hx (by omega)]
  rfl
theorem r_hole36 (hN1 : 1000 ≤ N) (W : Wp P n D mv) (hw : w ≤ 3) : ∀ (f i c d g : Nat) (x : Int32) (s : sg), D - i < f → c ≤ i → d ≤ i → g ≤ 480 → (c = 0 ↔ d = 0) → cln K D i → RU s P st K → s.1 419 2 = 0 → ∃ s', lX12_hole_36 N f 419 (nI w) (nI d) (nI c) (nI g) x (nI i) (mk s) = some (.inl (aHole w ((hl K D (D - i) i).foldl fH (c, d, g, x))), mk s') ∧ s'.1 419 2 = 0 ∧ Fr rQ s s' := by
  have hD := W.2.2.2.1
  intro f
  induction f with
  | zero => intro i c d g x s hf; omega
  | succ f ih =>
    intro i c d g x s hf hci hdi hg hcd hc h h2
    have hiD := hc.1
    show ∃ s', bX12_hole_36 N (lX12_hole_36 N f) 419 (nI w) (nI d) (nI c) (nI g) x (nI i) (mk s) = _ ∧ _
    obtain ⟨s1, j, b1, b2, b3, b4⟩ := r_nextHole (N := N) hN1 W h hc
    unfold bX12_hole_36
    simp (decide := true) only [ob_s, cS_l, cS_r, gI_k, gR_k, pI_k, pR_k, cV_k, aI_k, tI_k, rZ_0, rZ_1, rZ_i, rf_12_0, rf_12_1, rf_12_3, rf_12_4, rf_12_5, rf_12_6, rf_12_7, rf_12_8, rf_12_9, rf_12_10, rf_12_11, rf_12_12, rf_12_13, rf_12_14, rf_12_15, rf_12_26, rf_12_27, rf_12_31, rf_12_32, rf_12_33, rf_12_34, rf_12_41, rf_12_44, rf_12_47, rf_12_48, rf_12_49, rf_12_51, rf_12_55, rf_12_56, rf_12_57, rf_12_58, rf_12_59, rf_12_60, Nat.reduceAdd, kc_419, kc_420, kc_421, kc_422, kc_423, kc_424, kc_425, kc_426, kc_427, kc_428, kc_429, kc_430, kc_431, kc_432, kc_433, kc_434, kc_435, kc_436, kc_437, kc_438, kc_439, kc_440, kc_441, kc_442, kc_443, kc_444, kc_445, kc_446, kc_447, kc_448, kc_449, kc_450, kc_451, kc_452, kc_453, kn_420, kn_421, kn_422, kn_423, kn_424, kn_425, kn_426, kn_427, kn_428, kn_429, kn_430, kn_431, kn_432, kn_433, kn_434, kn_435, kn_436, kn_437, kn_438, kn_439, kn_440, kn_441, kn_442, kn_443, kn_444, kn_445, kn_446, kn_447, kn_448, kn_449, kn_450, kn_451, kn_452, kn_453, b1, sk_0]
    rcases b2 with ⟨c1, c2⟩ | ⟨c1, c2, c3, c4, c5, c6, c7⟩
    · rw [if_pos (by simp [c1]), c2]
      refine ⟨s1, ?_, b3.trans h2, b4⟩
      unfold bX12_hole_95
      show _ = some (Sum.inl (aHole w (c, d, g, x)), mk s1)
      rw [nI_l (show d < 2 ^ 31 by omega), nI_l (show c < 2 ^ 31 by omega), r_common hN1 (by omega) (by omega)]
      have hgle : Nat.gcd c d ≤ 480 := by
        rcases Nat.eq_zero_or_pos d with e | e
        · rw [e, Nat.gcd_zero_right]; omega
        · have := Nat.le_of_dvd e (Nat.gcd_dvd_right c d); omega
      unfold aHole
      rcases (show w = 0 ∨ w = 1 ∨ w = 2 ∨ w = 3 by omega) with rfl | rfl | rfl | rfl
      · rw [if_pos (by decide)]
        simp only [cS_l, lN_i]
        by_cases e : c = 0
        · subst e; simp [nI0]
        · have hp : 0 < Nat.gcd c d := Nat.gcd_pos_of_pos_left _ (by omega)
          rw [if_pos (nI_ne0 (by omega) (by omega)), if_neg (fun q => q rfl), dv_nI (by omega) (by omega) hp]
          simp [e, Nat.gcd_comm]
      · rw [if_pos (by decide)]
        simp only [cS_l, lN_i]
        by_cases e : c = 0
        · subst e; simp [nI0]; rfl
        · have hp : 0 < Nat.gcd c d := Nat.gcd_pos_of_pos_left _ (by omega)
          rw [if_pos (nI_ne0 (by omega) (by omega)), if_pos (by decide), dv_nI (by omega) (by omega) hp]
          simp [e, Nat.gcd_comm]
      · rw [if_neg (by decide), if_neg (fun q => q rfl)]; simp
      · rw [if_neg (by decide), if_pos (by decide)]; simp
    · rw [if_neg (by simp [c1])]
      have hle := c6.1
      have e : nI (j + stays K D j) - nI j = nI (stays K D j) := by rw [nI_sub (by omega), Nat.add_sub_cancel_left]
      simp (decide := true) only [ob_s, cS_l, cS_r, gI_k, gR_k, pI_k, pR_k, cV_k, aI_k, tI_k, rZ_0, rZ_1, rZ_i, rf_12_0, rf_12_1, rf_12_3, rf_12_4, rf_12_5, rf_12_6, rf_12_7, rf_12_8, rf_12_9, rf_12_10, rf_12_11, rf_12_12, rf_12_13, rf_12_14, rf_12_15, rf_12_26, rf_12_27, rf_12_31, rf_12_32, rf_12_33, rf_12_34, rf_12_41, rf_12_44, rf_12_47, rf_12_48, rf_12_49, rf_12_51, rf_12_55, rf_12_56, rf_12_57, rf_12_58, rf_12_59, rf_12_60, Nat.reduceAdd, kc_419, kc_420, kc_421, kc_422, kc_423, kc_424, kc_425, kc_426, kc_427, kc_428, kc_429, kc_430, kc_431, kc_432, kc_433, kc_434, kc_435, kc_436, kc_437, kc_438, kc_439, kc_440, kc_441, kc_442, kc_443, kc_444, kc_445, kc_446, kc_447, kc_448, kc_449, kc_450, kc_451, kc_452, kc_453, kn_420, kn_421, kn_422, kn_423, kn_424, kn_425, kn_426, kn_427, kn_428, kn_429, kn_430, kn_431, kn_432, kn_433, kn_434, kn_435, kn_436, kn_437, kn_438, kn_439, kn_440, kn_441, kn_442, kn_443, kn_444, kn_445, kn_446, kn_447, kn_448, kn_449, kn_450, kn_451, kn_452, kn_453, c3, c4, e, nI_add, nI_1]
      have nxt : ∀ (y : Int32) , (if g < stays K D j then (stays K D j, nI j) else (g, x)) = (max g (stays K D j), y) → ∃ s', bX12_hole_77 N (lX12_hole_36 N f) 419 (nI w) (nI (d + stays K D j)) (nI (c + 1)) (nI g) y (nI (stays K D j)) (mk s1) = some (.inl (aHole w ((hl K D (D - i) i).foldl fH (c, d, g, x))), mk s') ∧ s'.1 419 2 = 0 ∧ Fr rQ s s' := by
        intro y hy
        unfold bX12_hole_77
        simp (decide := true) only [ob_s, cS_l, cS_r, gI_k, gR_k, pI_k, pR_k, cV_k, aI_k, tI_k, rZ_0, rZ_1, rZ_i, rf_12_0, rf_12_1, rf_12_3, rf_12_4, rf_12_5, rf_12_6, rf_12_7, rf_12_8, rf_12_9, rf_12_10, rf_12_11, rf_12_12, rf_12_13, rf_12_14, rf_12_15, rf_12_26, rf_12_27, rf_12_31, rf_12_32, rf_12_33, rf_12_34, rf_12_41, rf_12_44, rf_12_47, rf_12_48, rf_12_49, rf_12_51, rf_12_55, rf_12_56, rf_12_57, rf_12_58, rf_12_59, rf_12_60, Nat.reduceAdd, kc_419, kc_420, kc_421, kc_422, kc_423, kc_424, kc_425, kc_426, kc_427, kc_428, kc_429, kc_430, kc_431, kc_432, kc_433, kc_434, kc_435, kc_436, kc_437, kc_438, kc_439, kc_440, kc_441, kc_442, kc_443, kc_444, kc_445, kc_446, kc_447, kc_448, kc_449, kc_450, kc_451, kc_452, kc_453, kn_420, kn_421, kn_422, kn_423, kn_424, kn_425, kn_426, kn_427, kn_428, kn_429, kn_430, kn_431, kn_432, kn_433, kn_434, kn_435, kn_436, kn_437, kn_438, kn_439, kn_440, kn_441, kn_442, kn_443, kn_444, kn_445, kn_446, kn_447, kn_448, kn_449, kn_450, kn_451, kn_452, kn_453, c4, mx_nI (show g < 2 ^ 31 by omega) (show stays K D j < 2 ^ 31 by omega)]
        obtain ⟨s2, d1, d2, d3⟩ := ih (j + stays K D j) (c + 1) (d + stays K D j) (max g (stays K D j)) y s1 (by omega) (by omega) (by omega) (by omega) (by omega) c6 (RU_fr h b4) (b3.trans h2)
        refine ⟨s2, ?_, d2, Fr_t b4 d3⟩
        rw [d1, c5, List.foldl_cons]
        have : fH (c, d, g, x) (j, stays K D j) = (c + 1, d + stays K D j, max g (stays K D j), y) := by
          unfold fH
          simp only [hy]
        rw [this]
      by_cases c9 : stays K D j ≤ g
      · rw [if_pos (nI_le c9 (by omega))]
        exact nxt x (by rw [if_neg (by omega), Nat.max_eq_left c9])
      · rw [if_neg (nI_ge (by omega) (by omega))]
        exact nxt (nI j) (by rw [if_pos (by omega), Nat.max_eq_right (by omega)])
theorem r_hole (hN1 : 1000 ≤ N) (W : Wp P n D mv) (h : RU s P st K) (hw : w ≤ 3) : ∃ s', fX12_hole N 419 (nI w) (mk s) = some (.inl (aHole w ((hl K D D 0).foldl fH (0, 0, 0, -1))), mk s') ∧ s'.1 419 2 = 0 ∧ Fr rQ s s' := by
  have hD := W.2.2.2.1
  have f1 : Fr rQ s (sI s 419 2 0) := Fr_sI (by unfold rQ; omega)
  obtain ⟨s', a1, a2, a3⟩ := r_hole36 (N := N) (w := w) hN1 W hw N 0 0 0 0 (-1) (sI s 419 2 0) (by omega) (by omega) (by omega) (by omega) (by omega) (cln_0 K D) (RU_fr h f1) (by simp [sI_c])
  rw [nI0, show D - 0 = D by omega] at a1
  refine ⟨s', ?_, a2, Fr_t f1 a3⟩
  have hin : sb (0 ≤ nI w ∧ nI w ≤ nI 3) = 1 := sb_pos ((in_rng (by omega)).mpr ⟨w, hw, rfl⟩)
  unfold fX12_hole bX12_hole_0
  simp (decide := true) only [ob_s, cS_l, cS_r, gI_k, gR_k, pI_k, pR_k, cV_k, aI_k, tI_k, rZ_0, rZ_1, rZ_i, rf_12_0, rf_12_1, rf_12_3, rf_12_4, rf_12_5, rf_12_6, rf_12_7, rf_12_8, rf_12_9, rf_12_10, rf_12_11, rf_12_12, rf_12_13, rf_12_14, rf_12_15, rf_12_26, rf_12_27, rf_12_31, rf_12_32, rf_12_33, rf_12_34, rf_12_41, rf_12_44, rf_12_47, rf_12_48, rf_12_49, rf_12_51, rf_12_55, rf_12_56, rf_12_57, rf_12_58, rf_12_59, rf_12_60, Nat.reduceAdd, kc_419, kc_420, kc_421, kc_422, kc_423, kc_424, kc_425, kc_426, kc_427, kc_428, kc_429, kc_430, kc_431, kc_432, kc_433, kc_434, kc_435, kc_436, kc_437, kc_438, kc_439, kc_440, kc_441, kc_442, kc_443, kc_444, kc_445, kc_446, kc_447, kc_448, kc_449, kc_450, kc_451, kc_452, kc_453, kn_420, kn_421, kn_422, kn_423, kn_424, kn_425, kn_426, kn_427, kn_428, kn_429, kn_430, kn_431, kn_432, kn_433, kn_434, kn_435, kn_436, kn_437, kn_438, kn_439, kn_440, kn_441, kn_442, kn_443, kn_444, kn_445, kn_446, kn_447, kn_448, kn_449, kn_450, kn_451, kn_452, kn_453, m_isIn0 N _ (nI w) 3 3 rfl, hin]
  exact a1
theorem r_hole' {x : Int32} (hx : ¬ (0 ≤ x ∧ x ≤ nI 3)) : fX12_hole N 419 x (mk s) = some (.inl 0, mk (sI (sI s 419 2 0) 419 2 1)) := by
  unfold fX12_hole bX12_hole_0
  simp (decide := true) only [ob_s, cS_l, cS_r, gI_k, gR_k, pI_k, pR_k, cV_k, aI_k, tI_k, rZ_0, rZ_1, rZ_i, rf_12_0, rf_12_1, rf_12_3, rf_12_4, rf_12_5, rf_12_6, rf_12_7, rf_12_8, rf_12_9, rf_12_10, rf_12_11, rf_12_12, rf_12_13, rf_12_14, rf_12_15, rf_12_26, rf_12_27, rf_12_31, rf_12_32, rf_12_33, rf_12_34, rf_12_41, rf_12_44, rf_12_47, rf_12_48, rf_12_49, rf_12_51, rf_12_55, rf_12_56, rf_12_57, rf_12_58, rf_12_59, rf_12_60, Nat.reduceAdd, kc_419, kc_420, kc_421, kc_422, kc_423, kc_424, kc_425, kc_426, kc_427, kc_428, kc_429, kc_430, kc_431, kc_432, kc_433, kc_434, kc_435, kc_436, kc_437, kc_438, kc_439, kc_440, kc_441, kc_442, kc_443, kc_444, kc_445, kc_446, kc_447, kc_448, kc_449, kc_450, kc_451, kc_452, kc_453, kn_420, kn_421, kn_422, kn_423, kn_424, kn_425, kn_426, kn_427, kn_428, kn_429, kn_430, kn_431, kn_432, kn_433, kn_434, kn_435, kn_436, kn_437, kn_438, kn_439, kn_440, kn_441, kn_442, kn_443, kn_444, kn_445, kn_446, kn_447, kn_448, kn_449, kn_450, kn_451, kn_452, kn_453, m_isIn0 N _ x 3 3 rfl, sb_neg hx, r_bad1, if_false]
/-! tries -/
theorem pw5 {c : mm_C} {v : Nat} : ∀ (f i k r : Nat), k - i < f → k < 2 ^ 31 → i ≤ k → lX11_power_5 N f (nI v) (nI k) (lN r) (nI i) c = some (.inl (lN (r * v ^ (k - i))), c) ∧ lX12_power_5 N f (nI v) (nI k) (lN r) (nI i) c = some (.inl (lN (r * v ^ (k - i))), c) ∨ 2 ^ 31 ≤ v := by
  by_cases hv : 2 ^ 31 ≤ v
  · intros; exact Or.inr hv
  · intro f
    induction f with
    | zero => intro i k r hf; omega
    | succ f ih =>
      intro i k r hf hk hi
      left
      show bX11_power_5 N (lX11_power_5 N f) (nI v) (nI k) (lN r) (nI i) c = _ ∧ bX12_power_5 N (lX12_power_5 N f) (nI v) (nI k) (lN r) (nI i) c = _
      unfold bX11_power_5 bX12_power_5 bX11_power_22 bX12_power_22
      by_cases c1 : k ≤ i
      · rw [if_pos (nI_le c1 (by omega)), if_pos (nI_le c1 (by omega)), show k - i = 0 by omega]
        simp
      · rw [if_neg (nI_ge (by omega) hk), if_neg (nI_ge (by omega) hk), nI_l (by omega), lN_mul, nI_1]
        rcases ih (i + 1) k (r * v) (by omega) hk (by omega) with h | h
        · have e : r * v * v ^ (k - (i + 1)) = r * v ^ (k - i) := by
            rw [show k - i = (k - (i + 1)) + 1 by omega, Nat.pow_succ, Nat.mul_assoc, Nat.mul_comm v]
          rw [e] at h
          exact h
        · exact absurd h hv
theorem c_power {c : mm_C} {v k : Nat} (hv : v < 2 ^ 31) (hk : k < N) (hk2 : k < 2 ^ 31) : fX11_power N (nI v) (nI k) c = some (.inl (lN (v ^ k)), c) := by
  rcases pw5 (N := N) (c := c) (v := v) N 0 k 1 (by omega) hk2 (by omega) with h | h
  · have := h.1
    rw [Nat.one_mul, show k - 0 = k by omega] at this
    exact this
  · omega
theorem r_power {c : mm_C} {v k : Nat} (hv : v < 2 ^ 31) (hk : k < N) (hk2 : k < 2 ^ 31) : fX12_power N (nI v) (nI k) c = some (.inl (lN (v ^ k)), c) := by
  rcases pw5 (N := N) (c := c) (v := v) N 0 k 1 (by omega) hk2 (by omega) with h | h
  · have := h.2
    rw [Nat.one_mul, show k - 0 = k by omega] at this
    exact this
  · omega
theorem pw_bd : ∀ t, t ≤ 10 → ∀ k, k ≤ 9 → t ^ k < 2 ^ 32 := by decide +kernel
theorem pw_pos {k : Nat} : 0 < 10 ^ k := Nat.pow_pos (by omega)
def aLast (t k w : Nat) : Int64 := if w = 0 then lN (t ^ k / Nat.gcd (t ^ k) (10 ^ k)) else lN (10 ^ k / Nat.gcd (t ^ k) (10 ^ k))
theorem c_reqTry {t : Nat} (ht : t ≤ 10) (hk : k < 9) : fX11_requireTry N (nI t) (nI (k + 1)) (mk s) = some (.inl (), mk s) := by
  unfold fX11_requireTry bX11_requireTry_0
  rw [if_neg (nI_pos (by omega)), if_neg (show ¬ (10 : Int32) < nI t from nI_nlt (a := 10) ht (by omega)), if_neg (show ¬ nI (k + 1) < 1 from nI_nlt (b := 1) (by omega) (by omega)), if_pos (show nI (k + 1) ≤ 9 from nI_le (b := 9) (by omega) (by omega))]
theorem c_reqTry' {x y : Int32} (h : ¬ ((0 ≤ x ∧ x ≤ 10) ∧ (1 ≤ y ∧ y ≤ 9))) : fX11_requireTry N x y (mk s) = some (.inr 0, mk s) := by
  unfold fX11_requireTry bX11_requireTry_0 bX11_requireTry_21
  by_cases c1 : x < 0
  · rw [if_pos c1]
  · rw [if_neg c1]
    by_cases c2 : 10 < x
    · rw [if_pos c2]
    · rw [if_neg c2]
      by_cases c3 : y < 1
      · rw [if_pos c3]
      · rw [if_neg c3, if_neg (fun q => h ⟨⟨Int32.not_lt.mp c1, Int32.not_lt.mp c2⟩, Int32.not_lt.mp c3, q⟩)]
theorem c_lasts {t : Nat} (hN1 : 1000 ≤ N) (ht : t ≤ 10) (hk : k < 9) (hw : w ≤ 1) : fX11_lasts N 0 (nI t) (nI (k + 1)) (nI w) (mk s) = some (.inl (aLast t (k + 1) w), mk s) := by
  have h1 := pw_bd t ht (k + 1) (by omega)
  have h2 := pw_bd 10 (by omega) (k + 1) (by omega)
  have h3 : 0 < Nat.gcd (t ^ (k + 1)) (10 ^ (k + 1)) := Nat.gcd_pos_of_pos_right _ pw_pos
  unfold fX11_lasts bX11_lasts_0 bX11_lasts_36
  rw [show (1 : Int32) = nI 1 from rfl, c_reqWhat (l := 1) hw (by omega)]
  simp only [cS_l, c_reqTry ht hk]
  rw [c_power (by omega) (by omega) (by omega)]
  simp only [cS_l]
  rw [show (10 : Int32) = nI 10 from rfl, c_power (by omega) (by omega) (by omega)]
  simp only [cS_l]
  rw [c_lowered hN1 h2 h1 h2 h3, c_lowered hN1 h1 h1 h2 h3]
  unfold aLast
  rcases (show w = 0 ∨ w = 1 by omega) with rfl | rfl
  · rw [if_neg (fun q => q rfl)]; simp [cS_l]
  · rw [if_pos (by decide)]; simp [cS_l]
theorem r_areC {x y : Int32} : fX12_areChances N x y (mk s) = some (.inl (sb ((0 ≤ x ∧ x ≤ 10) ∧ (1 ≤ y ∧ y ≤ 9))), mk s) := by
  have h0 : (0 : Int64) = (0 : Int32).toInt64 := by decide
  have h1 : (1 : Int64) = (1 : Int32).toInt64 := by decide
  have h9 : (9 : Int64) = (9 : Int32).toInt64 := by decide
  have h10 : (10 : Int64) = (10 : Int32).toInt64 := by decide
  unfold fX12_areChances bX12_areChances_0
  simp only [m_isIn, cS_l, sb_eq0]
  simp only [h0, h1, h9, h10, i64_le]
  by_cases c1 : 0 ≤ x ∧ x ≤ 10
  · rw [if_neg (fun q => q c1)]
    by_cases c2 : 1 ≤ y ∧ y ≤ 9
    · rw [if_neg (fun q => q c2), sb_pos ⟨c1, c2⟩]; rfl
    · rw [if_pos c2, sb_neg (fun q => c2 q.2)]; rfl
  · rw [if_pos c1, sb_neg (fun q => c1 q.1)]; rfl
theorem r_lasts {t : Nat} (hN1 : 1000 ≤ N) (ht : t ≤ 10) (hk : k < 9) (hw : w ≤ 1) : fX12_lasts N 419 (nI t) (nI (k + 1)) (nI w) (mk s) = some (.inl (aLast t (k + 1) w), mk (sI s 419 2 0)) := by
  have h1 := pw_bd t ht (k + 1) (by omega)
  have h2 := pw_bd 10 (by omega) (k + 1) (by omega)
  have h3 : 0 < Nat.gcd (t ^ (k + 1)) (10 ^ (k + 1)) := Nat.gcd_pos_of_pos_right _ pw_pos
  have hg : Nat.gcd (t ^ (k + 1)) (10 ^ (k + 1)) < 2 ^ 62 := by
    have := Nat.le_of_dvd pw_pos (Nat.gcd_dvd_right (t ^ (k + 1)) (10 ^ (k + 1)))
    omega
  have hin : sb ((0 ≤ nI t ∧ nI t ≤ 10) ∧ ((1 : Int32) ≤ nI (k + 1) ∧ nI (k + 1) ≤ 9)) = 1 := sb_pos ⟨⟨nI_pos' (by omega), nI_le (b := 10) ht (by omega)⟩, nI_le (a := 1) (by omega) (by omega), nI_le (b := 9) (by omega) (by omega)⟩
  unfold fX12_lasts bX12_lasts_0 bX12_lasts_77
  simp (decide := true) only [ob_s, cS_l, cS_r, gI_k, gR_k, pI_k, pR_k, cV_k, aI_k, tI_k, rZ_0, rZ_1, rZ_i, rf_12_0, rf_12_1, rf_12_3, rf_12_4, rf_12_5, rf_12_6, rf_12_7, rf_12_8, rf_12_9, rf_12_10, rf_12_11, rf_12_12, rf_12_13, rf_12_14, rf_12_15, rf_12_26, rf_12_27, rf_12_31, rf_12_32, rf_12_33, rf_12_34, rf_12_41, rf_12_44, rf_12_47, rf_12_48, rf_12_49, rf_12_51, rf_12_55, rf_12_56, rf_12_57, rf_12_58, rf_12_59, rf_12_60, Nat.reduceAdd, kc_419, kc_420, kc_421, kc_422, kc_423, kc_424, kc_425, kc_426, kc_427, kc_428, kc_429, kc_430, kc_431, kc_432, kc_433, kc_434, kc_435, kc_436, kc_437, kc_438, kc_439, kc_440, kc_441, kc_442, kc_443, kc_444, kc_445, kc_446, kc_447, kc_448, kc_449, kc_450, kc_451, kc_452, kc_453, kn_420, kn_421, kn_422, kn_423, kn_424, kn_425, kn_426, kn_427, kn_428, kn_429, kn_430, kn_431, kn_432, kn_433, kn_434, kn_435, kn_436, kn_437, kn_438, kn_439, kn_440, kn_441, kn_442, kn_443, kn_444, kn_445, kn_446, kn_447, kn_448, kn_449, kn_450, kn_451, kn_452, kn_453]
  rw [if_neg (nI_pos (by omega)), if_pos (show nI w ≤ 1 from nI_le (b := 1) hw (by omega))]
  simp (decide := true) only [ob_s, cS_l, cS_r, gI_k, gR_k, pI_k, pR_k, cV_k, aI_k, tI_k, rZ_0, rZ_1, rZ_i, rf_12_0, rf_12_1, rf_12_3, rf_12_4, rf_12_5, rf_12_6, rf_12_7, rf_12_8, rf_12_9, rf_12_10, rf_12_11, rf_12_12, rf_12_13, rf_12_14, rf_12_15, rf_12_26, rf_12_27, rf_12_31, rf_12_32, rf_12_33, rf_12_34, rf_12_41, rf_12_44, rf_12_47, rf_12_48, rf_12_49, rf_12_51, rf_12_55, rf_12_56, rf_12_57, rf_12_58, rf_12_59, rf_12_60, Nat.reduceAdd, kc_419, kc_420, kc_421, kc_422, kc_423, kc_424, kc_425, kc_426, kc_427, kc_428, kc_429, kc_430, kc_431, kc_432, kc_433, kc_434, kc_435, kc_436, kc_437, kc_438, kc_439, kc_440, kc_441, kc_442, kc_443, kc_444, kc_445, kc_446, kc_447, kc_448, kc_449, kc_450, kc_451, kc_452, kc_453, kn_420, kn_421, kn_422, kn_423, kn_424, kn_425, kn_426, kn_427, kn_428, kn_429, kn_430, kn_431, kn_432, kn_433, kn_434, kn_435, kn_436, kn_437, kn_438, kn_439, kn_440, kn_441, kn_442, kn_443, kn_444, kn_445, kn_446, kn_447, kn_448, kn_449, kn_450, kn_451, kn_452, kn_453, r_areC, hin, if_true]
  rw [r_power (by omega) (by omega) (by omega)]
  simp only [cS_l]
  rw [show (10 : Int32) = nI 10 from rfl, r_power (by omega) (by omega) (by omega)]
  simp only [cS_l]
  rw [r_common hN1 h2 h1]
  simp only [cS_l]
  rw [Nat.gcd_comm, dvL_N (by omega) hg h3, dvL_N (by omega) hg h3]
  unfold aLast
  rcases (show w = 0 ∨ w = 1 by omega) with rfl | rfl
  · rw [if_neg (fun q => q rfl), if_pos rfl]; rfl
  · rw [if_pos (show ¬ nI 1 = 0 by decide), if_neg (show ¬ (1 : Nat) = 0 by omega)]; rfl
/-- what a try gives in the mean -/
def trv (t k : Nat) (x : Int32) : Nat → Nat → Int64 → Int64
  | 0, _, r => r
  | f + 1, i, r => trv t k x f (i + 1) (r - ((((lN (t ^ (i - 1)) * ((10 : Int32) - nI t).toInt64) * lN (10 ^ (k - i))) * x.toInt64) * (nI i).toInt64))
theorem tri (c : mm_C) (x : Int32) : ∀ (f i k : Nat) (t : Nat) (r : Int64), t ≤ 10 → k + 1 - i < f → 1 ≤ i → i ≤ k + 1 → k ≤ 9 → 10 ≤ N → lX11_trial_57 N f (nI t) (nI k) x r (nI i) c = some (.inl (trv t k x (k + 1 - i) i r), c) ∧ lX12_trial_63 N f (nI t) (nI k) x r (nI i) c = some (.inl (trv t k x (k + 1 - i) i r), c) := by
  intro f
  induction f with
  | zero => intro i k t r ht hf; omega
  | succ f ih =>
    intro i k t r ht hf hi1 hi hk hN1
    show bX11_trial_57 N (lX11_trial_57 N f) (nI t) (nI k) x r (nI i) c = _ ∧ bX12_trial_63 N (lX12_trial_63 N f) (nI t) (nI k) x r (nI i) c = _
    unfold bX11_trial_57 bX12_trial_63 bX11_trial_110 bX12_trial_112
    by_cases c1 : k < i
    · rw [if_pos (nI_lt c1 (by omega)), if_pos (nI_lt c1 (by omega)), show k + 1 - i = 0 by omega]
      exact ⟨rfl, rfl⟩
    · rw [if_neg (nI_nlt (by omega) (by omega)), if_neg (nI_nlt (by omega) (by omega))]
      have e1 : nI i - 1 = nI (i - 1) := nI_sub (b := 1) hi1
      rw [e1, nI_sub (show i ≤ k by omega), c_power (by omega) (by omega) (by omega), r_power (by omega) (by omega) (by omega)]
      have p1 : fX11_power N 10 (nI (k - i)) c = some (.inl (lN (10 ^ (k - i))), c) := c_power (v := 10) (by omega) (by omega) (by omega)
      have p2 : fX12_power N 10 (nI (k - i)) c = some (.inl (lN (10 ^ (k - i))), c) := r_power (v := 10) (by omega) (by omega) (by omega)
      simp only [cS_l, p1, p2, nI_1]
      obtain ⟨g, hg⟩ : ∃ g, k + 1 - i = g + 1 := ⟨k - i, by omega⟩
      have := ih (i + 1) k t (r - ((((lN (t ^ (i - 1)) * ((10 : Int32) - nI t).toInt64) * lN (10 ^ (k - i))) * x.toInt64) * (nI i).toInt64)) ht (by omega) (by omega) (by omega) hk hN1
      rw [show k + 1 - (i + 1) = g by omega] at this
      rw [hg]
      exact this
def aTry (t k a b : Nat) : Int64 := trv t k (nI b) k 1 (lN (t ^ k) * (nI a - (nI b * nI k)).toInt64)
theorem c_trial {t : Nat} (hN1 : 1000 ≤ N) (ht : t ≤ 10) (hk : k < 9) {a b : Nat} (ha : a ≤ 999) (hb : b ≤ 99) : fX11_trial N 0 (nI t) (nI (k + 1)) (nI a) (nI b) (mk s) = some (.inl (aTry t (k + 1) a b), mk s) := by
  have g := (tri (N := N) (mk s) (nI b) N 1 (k + 1) t (lN (t ^ (k + 1)) * (nI a - (nI b * nI (k + 1))).toInt64) ht (by omega) (by omega) (by omega) (by omega) (by omega)).1
  rw [show k + 1 + 1 - 1 = k + 1 by omega] at g
  unfold fX11_trial bX11_trial_0
  rw [c_reqTry ht hk]
  simp only [cS_l]
  rw [if_neg (nI_pos (by omega)), if_neg (show ¬ (999 : Int32) < nI a from nI_nlt (a := 999) ha (by omega)), if_neg (nI_pos (by omega)), if_pos (show nI b ≤ 99 from nI_le (b := 99) hb (by omega)), c_power (by omega) (by omega) (by omega)]
  exact g
theorem c_trial' {x y z v : Int32} (h : ¬ (((0 ≤ x ∧ x ≤ 10) ∧ (1 ≤ y ∧ y ≤ 9)) ∧ (0 ≤ z ∧ z ≤ 999) ∧ (0 ≤ v ∧ v ≤ 99))) : fX11_trial N 0 x y z v (mk s) = some (.inr 0, mk s) := by
  unfold fX11_trial bX11_trial_0 bX11_trial_28
  by_cases c0 : (0 ≤ x ∧ x ≤ 10) ∧ (1 ≤ y ∧ y ≤ 9)
  · obtain ⟨t, ht, rfl⟩ := (in_rng (b := 10) (by omega)).mp c0.1
    obtain ⟨k, hk, rfl⟩ : ∃ k, k < 9 ∧ y = nI (k + 1) := by
      obtain ⟨j, hj, rfl⟩ := (in_rng (x := y) (b := 9) (by omega)).mp ⟨Int32.le_trans (by decide) c0.2.1, c0.2.2⟩
      have : 1 ≤ j := Nat.le_of_not_lt fun q => nI_ge (b := 1) q (by omega) c0.2.1
      exact ⟨j - 1, by omega, by rw [show j - 1 + 1 = j by omega]⟩
    rw [c_reqTry ht hk]
    simp only [cS_l]
    by_cases c1 : z < 0
    · rw [if_pos c1]
    · rw [if_neg c1]
      by_cases c2 : 999 < z
      · rw [if_pos c2]
      · rw [if_neg c2]
        by_cases c3 : v < 0
        · rw [if_pos c3]
        · rw [if_neg c3, if_neg (fun q => h ⟨c0, ⟨Int32.not_lt.mp c1, Int32.not_lt.mp c2⟩, Int32.not_lt.mp c3, q⟩)]
  · rw [c_reqTry' c0]
    rfl
theorem r_trial {t : Nat} (hN1 : 1000 ≤ N) (ht : t ≤ 10) (hk : k < 9) {a b : Nat} (ha : a ≤ 999) (hb : b ≤ 99) : fX12_trial N 419 (nI t) (nI (k + 1)) (nI a) (nI b) (mk s) = some (.inl (aTry t (k + 1) a b), mk (sI s 419 2 0)) := by
  have h0 : (0 : Int64) = (0 : Int32).toInt64 := by decide
  have h9 : (999 : Int64) = (999 : Int32).toInt64 := by decide
  have h99 : (99 : Int64) = (99 : Int32).toInt64 := by decide
  have hin : sb ((0 ≤ nI t ∧ nI t ≤ 10) ∧ ((1 : Int32) ≤ nI (k + 1) ∧ nI (k + 1) ≤ 9)) = 1 := sb_pos ⟨⟨nI_pos' (by omega), nI_le (b := 10) ht (by omega)⟩, nI_le (a := 1) (by omega) (by omega), nI_le (b := 9) (by omega) (by omega)⟩
  have hia : fX12_isIn N (nI a).toInt64 0 999 (mk (sI s 419 2 0)) = some (.inl 1, mk (sI s 419 2 0)) := by
    rw [m_isIn, h9, h0]
    simp only [i64_le]
    rw [sb_pos ⟨nI_pos' (by omega), nI_le (b := 999) ha (by omega)⟩]
  have hib : fX12_isIn N (nI b).toInt64 0 99 (mk (sI s 419 2 0)) = some (.inl 1, mk (sI s 419 2 0)) := by
    rw [m_isIn, h99, h0]
    simp only [i64_le]
    rw [sb_pos ⟨nI_pos' (by omega), nI_le (b := 99) hb (by omega)⟩]
  have g := (tri (N := N) (mk (sI s 419 2 0)) (nI b) N 1 (k + 1) t (lN (t ^ (k + 1)) * (nI a - (nI b * nI (k + 1))).toInt64) ht (by omega) (by omega) (by omega) (by omega) (by omega)).2
  rw [show k + 1 + 1 - 1 = k + 1 by omega] at g
  unfold fX12_trial bX12_trial_0
  simp (decide := true) only [ob_s, cS_l, cS_r, gI_k, gR_k, pI_k, pR_k, cV_k, aI_k, tI_k, rZ_0, rZ_1, rZ_i, rf_12_0, rf_12_1, rf_12_3, rf_12_4, rf_12_5, rf_12_6, rf_12_7, rf_12_8, rf_12_9, rf_12_10, rf_12_11, rf_12_12, rf_12_13, rf_12_14, rf_12_15, rf_12_26, rf_12_27, rf_12_31, rf_12_32, rf_12_33, rf_12_34, rf_12_41, rf_12_44, rf_12_47, rf_12_48, rf_12_49, rf_12_51, rf_12_55, rf_12_56, rf_12_57, rf_12_58, rf_12_59, rf_12_60, Nat.reduceAdd, kc_419, kc_420, kc_421, kc_422, kc_423, kc_424, kc_425, kc_426, kc_427, kc_428, kc_429, kc_430, kc_431, kc_432, kc_433, kc_434, kc_435, kc_436, kc_437, kc_438, kc_439, kc_440, kc_441, kc_442, kc_443, kc_444, kc_445, kc_446, kc_447, kc_448, kc_449, kc_450, kc_451, kc_452, kc_453, kn_420, kn_421, kn_422, kn_423, kn_424, kn_425, kn_426, kn_427, kn_428, kn_429, kn_430, kn_431, kn_432, kn_433, kn_434, kn_435, kn_436, kn_437, kn_438, kn_439, kn_440, kn_441, kn_442, kn_443, kn_444, kn_445, kn_446, kn_447, kn_448, kn_449, kn_450, kn_451, kn_452, kn_453, r_areC, hin, hia, hib]
  rw [r_power (by omega) (by omega) (by omega)]
  exact g
theorem r_trial' {x y z v : Int32} (h : ¬ (((0 ≤ x ∧ x ≤ 10) ∧ (1 ≤ y ∧ y ≤ 9)) ∧ (0 ≤ z ∧ z ≤ 999) ∧ (0 ≤ v ∧ v ≤ 99))) : fX12_trial N 419 x y z v (mk s) = some (.inl 0, mk (sI (sI s 419 2 0) 419 2 1)) := by
  have h0 : (0 : Int64) = (0 : Int32).toInt64 := by decide
  have h9 : (999 : Int64) = (999 : Int32).toInt64 := by decide
  have h99 : (99 : Int64) = (99 : Int32).toInt64 := by decide
  have hz : fX12_isIn N z.toInt64 0 999 (mk (sI s 419 2 0)) = some (.inl (sb (0 ≤ z ∧ z ≤ 999)), mk (sI s 419 2 0)) := by
    rw [m_isIn, h9, h0]
    simp only [i64_le]
  have hv : fX12_isIn N v.toInt64 0 99 (mk (sI s 419 2 0)) = some (.inl (sb (0 ≤ v ∧ v ≤ 99)), mk (sI s 419 2 0)) := by
    rw [m_isIn, h99, h0]
    simp only [i64_le]
  unfold fX12_trial bX12_trial_0 bX12_trial_38
  simp (decide := true) only [ob_s, cS_l, cS_r, gI_k, gR_k, pI_k, pR_k, cV_k, aI_k, tI_k, rZ_0, rZ_1, rZ_i, rf_12_0, rf_12_1, rf_12_3, rf_12_4, rf_12_5, rf_12_6, rf_12_7, rf_12_8, rf_12_9, rf_12_10, rf_12_11, rf_12_12, rf_12_13, rf_12_14, rf_12_15, rf_12_26, rf_12_27, rf_12_31, rf_12_32, rf_12_33, rf_12_34, rf_12_41, rf_12_44, rf_12_47, rf_12_48, rf_12_49, rf_12_51, rf_12_55, rf_12_56, rf_12_57, rf_12_58, rf_12_59, rf_12_60, Nat.reduceAdd, kc_419, kc_420, kc_421, kc_422, kc_423, kc_424, kc_425, kc_426, kc_427, kc_428, kc_429, kc_430, kc_431, kc_432, kc_433, kc_434, kc_435, kc_436, kc_437, kc_438, kc_439, kc_440, kc_441, kc_442, kc_443, kc_444, kc_445, kc_446, kc_447, kc_448, kc_449, kc_450, kc_451, kc_452, kc_453, kn_420, kn_421, kn_422, kn_423, kn_424, kn_425, kn_426, kn_427, kn_428, kn_429, kn_430, kn_431, kn_432, kn_433, kn_434, kn_435, kn_436, kn_437, kn_438, kn_439, kn_440, kn_441, kn_442, kn_443, kn_444, kn_445, kn_446, kn_447, kn_448, kn_449, kn_450, kn_451, kn_452, kn_453, r_areC, hz, hv, sb_eq0, r_bad1]
  by_cases c0 : (0 ≤ x ∧ x ≤ 10) ∧ (1 ≤ y ∧ y ≤ 9)
  · rw [if_neg (fun q => q c0)]
    by_cases c1 : 0 ≤ z ∧ z ≤ 999
    · rw [if_neg (fun q => q c1)]
      by_cases c2 : 0 ≤ v ∧ v ≤ 99
      · exact absurd ⟨c0, c1, c2⟩ h
      · rw [if_neg (fun q => q c2)]; rfl
    · rw [if_pos c1]; rfl
  · rw [if_pos c0]; rfl
end HO
