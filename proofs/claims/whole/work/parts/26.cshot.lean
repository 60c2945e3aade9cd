/- needs: 25.coutl -/
/-! shots: what the class's outlook says of them -/
def ShAt (s : sg) (q : Nat) (P : pln) (k : Nat) : Prop := s.1 q 0 = P 1 k ∧ s.1 q 1 = P 2 k ∧ s.1 q 2 = P 3 k ∧ s.1 q 3 = P 4 k ∧ s.1 q 4 = P 5 k ∧ s.1 q 5 = P 6 k
def okS (P : pln) (k : Nat) : Prop := (P 1 k = 0 ∨ P 1 k = 1 ∨ P 1 k = 2) ∧ (P 2 k = 0 ∨ P 2 k = 1 ∨ P 2 k = 2)
def plO (p : Nat) : Prop := kc p = 3 ∧ kc (p + 1) = 24 ∧ kn (p + 1) = 8 ∧ (∀ k, k < 8 → kc (p + 1 + 7 + k) = 7) ∧ skO (p + 2)
/-- a shot that has its light from the sky -/
def sSk (P : pln) (st : Nat → Int32) (k : Nat) : Bool := decide (P 1 k = 0) || (decide (P 1 k = 1) && (decide (st 5 = 0) && decide (st 6 = 0)))
def sSp (P : pln) (st : Nat → Int32) (K : Nat → Bool) (D k m ℓ : Nat) : Bool := sSk P st k && decide (stays K D m < ℓ)
theorem sEnd_run {P : pln} {st : Nat → Int32} {K : Nat → Bool} {k m : Nat} (h : ∀ m, sLt P st K k m = K m) : ∀ f i g, f ≤ g → sEnd P st K k m f i = decide (f ≤ rl K (K m) g (m + i))
  | 0, i, g, _ => by simp [sEnd]
  | f + 1, i, g, hg => by
    obtain ⟨g', rfl⟩ : ∃ g', g = g' + 1 := ⟨g - 1, by omega⟩
    rw [sEnd_s, rl_s, h, h]
    by_cases e : K (m + i) = K m
    · rw [if_pos e, if_pos e, sEnd_run h f (i + 1) g' (by omega)]
      simp only [show m + (i + 1) = m + i + 1 by omega, Nat.add_le_add_iff_right]
    · rw [if_neg e, if_neg e]; simp
theorem sGo_run {P : pln} {st : Nat → Int32} {K : Nat → Bool} {k m : Nat} (h : ∀ m, sLt P st K k m = K m) : ∀ f i g, f ≤ g → sGo P st K k m f i = if f ≤ rl K (K m) g (m + i) then i + f else i + rl K (K m) g (m + i) + 1
  | 0, i, g, _ => by simp [sGo]
  | f + 1, i, g, hg => by
    obtain ⟨g', rfl⟩ : ∃ g', g = g' + 1 := ⟨g - 1, by omega⟩
    rw [sGo_s, rl_s, h, h]
    by_cases e : K (m + i) = K m
    · rw [if_pos e, if_pos e, sGo_run h f (i + 1) g' (by omega), show m + (i + 1) = m + i + 1 by omega]
      by_cases c : f ≤ rl K (K m) g' (m + i + 1)
      · rw [if_pos c, if_pos (by omega)]; omega
      · rw [if_neg c, if_neg (by omega)]; omega
    · rw [if_neg e, if_neg e, if_neg (by omega)]
theorem sEnd_con {P : pln} {st : Nat → Int32} {K : Nat → Bool} {k m : Nat} (h : ∀ m m', sLt P st K k m = sLt P st K k m') : ∀ f i, sEnd P st K k m f i = true
  | 0, _ => rfl
  | f + 1, i => by rw [sEnd_s, if_pos (h _ _), sEnd_con h f]
theorem sGo_con {P : pln} {st : Nat → Int32} {K : Nat → Bool} {k m : Nat} (h : ∀ m m', sLt P st K k m = sLt P st K k m') : ∀ f i, sGo P st K k m f i = i + f
  | 0, _ => rfl
  | f + 1, i => by rw [sGo_s, if_pos (h _ _), sGo_con h f]; omega
theorem sLt_sky {P : pln} {st : Nat → Int32} {K : Nat → Bool} {k : Nat} (hz : bz st) (hs : sSk P st k = true) (m : Nat) : sLt P st K k m = K m := by
  unfold sSk at hs
  unfold sLt
  rcases hz with ⟨h5 | h5, h6 | h6⟩ <;> simp [h5, h6] at hs ⊢
  · rcases hs with h | h <;> simp [h]
  · simp [hs]
  · simp [hs]
  · simp [hs]
theorem sLt_con {P : pln} {st : Nat → Int32} {K : Nat → Bool} {k : Nat} (hz : bz st) (ho : okS P k) (hs : sSk P st k = false) (m m' : Nat) : sLt P st K k m = sLt P st K k m' := by
  unfold sSk at hs
  unfold sLt
  rcases ho.1 with h | h | h
  · simp [h] at hs
  · rcases hz with ⟨h5 | h5, h6 | h6⟩ <;> simp [h, h5, h6] at hs ⊢
  · simp [h]
theorem stays_rl {K : Nat → Bool} {D m : Nat} (h : m < D) : stays K D m = rl K (K m) (D - (m + 1)) (m + 1) + 1 := by
  unfold stays
  obtain ⟨g, hg⟩ : ∃ g, D - m = g + 1 := ⟨D - m - 1, by omega⟩
  rw [hg, rl_s, if_pos rfl, show D - (m + 1) = g by omega]
theorem sEn_sp {P : pln} {st : Nat → Int32} {K : Nat → Bool} {D k m ℓ : Nat} (hz : bz st) (ho : okS P k) (hl : 1 ≤ ℓ) (hm : m + ℓ ≤ D) : sEn P st K D k m ℓ = !sSp P st K D k m ℓ := by
  unfold sEn sSp
  rw [decide_eq_true hm, Bool.true_and]
  cases h : sSk P st k
  · rw [sEnd_con (sLt_con hz ho h)]; rfl
  · rw [sEnd_run (sLt_sky hz h) (ℓ - 1) 1 (D - (m + 1)) (by omega), stays_rl (show m < D by omega)]
    rw [Bool.true_and, ← decide_not]
    exact decide_eq_decide.mpr (by omega)
theorem sGo_sp {P : pln} {st : Nat → Int32} {K : Nat → Bool} {D k m ℓ : Nat} (hz : bz st) (ho : okS P k) (hl : 1 ≤ ℓ) (hm : m + ℓ ≤ D) : sGo P st K k m (ℓ - 1) 1 = if sSp P st K D k m ℓ = true then stays K D m + 1 else ℓ := by
  unfold sSp
  cases h : sSk P st k
  · rw [sGo_con (sLt_con hz ho h)]
    simp only [Bool.false_and, Bool.false_eq_true, if_false]
    omega
  · rw [sGo_run (sLt_sky hz h) (ℓ - 1) 1 (D - (m + 1)) (by omega), stays_rl (show m < D by omega)]
    simp only [Bool.true_and, decide_eq_true_eq]
    by_cases c : ℓ - 1 ≤ rl K (K m) (D - (m + 1)) (m + 1)
    · rw [if_pos c, if_neg (by omega)]; omega
    · rw [if_neg c, if_pos (by omega)]; omega
theorem sCan_sp {P : pln} {st : Nat → Int32} {K : Nat → Bool} {D k m ℓ : Nat} (hz : bz st) (ho : okS P k) (hl : okL P k ℓ) (hD : D ≤ 480) (hm : m < D) : sCan P st K D k m ℓ = (decide (sMin P st K D k m = 0) && !sSp P st K D k m ℓ) := by
  have h3 : P 3 k = nI ℓ := hl.1
  have hl2 := hl.2
  have e : (nI m + nI ℓ ≤ nI D) ↔ m + ℓ ≤ D := by
    rw [nI_add]
    constructor
    · intro q
      apply Nat.le_of_not_lt
      intro q2
      exact nI_ge q2 (by omega) q
    · intro q; exact nI_le q (by omega)
  unfold sCan sMin
  by_cases c4 : nI m < P 4 k
  · simp [c4, Int32.not_le.mpr c4]
  · by_cases c5 : nI m ≤ P 5 k
    · cases c6 : sLit P st K k m
      · simp [c4, c5]
      · by_cases c7 : m + ℓ ≤ D
        · rw [sEn_sp hz ho hl2.1 c7]
          simp [c4, c5, h3, e, c7, Int32.not_lt.mp c4]
        · have : sEn P st K D k m ℓ = false := by unfold sEn; simp [c7]
          rw [this]
          simp [c4, c5, h3, e, c7]
    · simp [c4, c5]
section CH
variable {N : Nat} {s : sg} {K : Nat → Bool} {st : Nat → Int32} {P : pln} {o p a D q k m ℓ : Nat}
theorem c_place (hq : kc q = 7) (hS : ShAt s q P k) : fX7_place N q (mk s) = some (.inl (sk_i (decide (P 1 k = 2))), mk s) := by
  unfold fX7_place bX7_place_0
  simp (decide := true) only [Option.bind_some, cS_inl, cS_inr, gI_k, gR_k, pI_k, pR_k, cV_k, aI_k, tI_k, rZ_0, rZ_1, rZ_i, aB_k, tB_k, aZ_k, tZ_k, aR_24, aR_25, aR_27, rf_0_6, rf_0_7, rf_0_8, rf_0_9, rf_1_0, rf_1_1, rf_2_2, rf_3_6, rf_3_7, rf_3_8, rf_4_1, rf_4_3, rf_4_4, rf_5_0, rf_5_1, rf_5_3, rf_5_4, rf_5_5, rf_5_7, rf_6_4, rf_6_9, rf_6_10, rf_6_11, rf_6_12, rf_6_5, rf_8_0, rf_9_7, rf_9_8, rf_10_2, rf_11_0, rf_11_5, rf_11_6, rf_11_7, rf_11_9, rf_11_10, rf_11_11, rf_11_12, rf_24, rf_27, hq, hS.1]
  by_cases h : P 1 k = 2 <;> simp [h, sk_i]
theorem c_lightOf (ho : ooO o) (ha : stO a) (hO : OLk s o p a D K) (hs : SAt s a st K) (hz : bz st) (hq : kc q = 7) (hS : ShAt s q P k) (h2 : P 1 k ≠ 2) (hm : m < D) (hD : D ≤ 480) : fX1_lightOf N o q (nI m) (mk s) = some (.inl (lgt (sLt P st K k m)), mk s) := by
  obtain ⟨o1, o2, o3, o4, o5⟩ := ho
  have i1 : inB (nI m) 480 = true := inA_nI (by omega) (by omega)
  unfold fX1_lightOf bX1_lightOf_0 bX1_lightOf_20 bX1_lightOf_40
  simp (decide := true) only [Option.bind_some, cS_inl, cS_inr, gI_k, gR_k, pI_k, pR_k, cV_k, aI_k, tI_k, rZ_0, rZ_1, rZ_i, aB_k, tB_k, aZ_k, tZ_k, aR_24, aR_25, aR_27, rf_0_6, rf_0_7, rf_0_8, rf_0_9, rf_1_0, rf_1_1, rf_2_2, rf_3_6, rf_3_7, rf_3_8, rf_4_1, rf_4_3, rf_4_4, rf_5_0, rf_5_1, rf_5_3, rf_5_4, rf_5_5, rf_5_7, rf_6_4, rf_6_9, rf_6_10, rf_6_11, rf_6_12, rf_6_5, rf_8_0, rf_9_7, rf_9_8, rf_10_2, rf_11_0, rf_11_5, rf_11_6, rf_11_7, rf_11_9, rf_11_10, rf_11_11, rf_11_12, rf_24, rf_27, hq, hS.1, o1, o4, o5, i1, nI_clamp (show m < 2 ^ 31 by omega), rf_1_3, hO.2.1, ha.1, hs.2.2.2.2.2.1, hs.2.2.2.2.2.2.1, (hO.2.2.2 m (by omega) hm).2]
  unfold sLt
  by_cases h1 : P 1 k = 1
  · rcases hz with ⟨h5 | h5, h6 | h6⟩ <;> simp [h1, h5, h6, lgt]
  · simp [h1, h2]
theorem c_hindM (ho : ooO o) (ha : stO a) (hO : OLk s o p a D K) (hs : SAt s a st K) (hz : bz st) (hq : kc q = 7) (hS : ShAt s q P k) (hok : okS P k) (hm : m < D) (hD : D ≤ 480) : fX1_hindranceOfMinute N o q (nI m) (mk s) = some (.inl (sMin P st K D k m), mk s) := by
  have e0 : bX1_hindranceOfMinute_48 N o q (nI m) (mk s) = some (.inl (if nI m + P 3 k ≤ nI D then 0 else 6), mk s) := by
    unfold bX1_hindranceOfMinute_48
    simp (decide := true) only [Option.bind_some, cS_inl, cS_inr, gI_k, gR_k, pI_k, pR_k, cV_k, aI_k, tI_k, rZ_0, rZ_1, rZ_i, aB_k, tB_k, aZ_k, tZ_k, aR_24, aR_25, aR_27, rf_0_6, rf_0_7, rf_0_8, rf_0_9, rf_1_0, rf_1_1, rf_2_2, rf_3_6, rf_3_7, rf_3_8, rf_4_1, rf_4_3, rf_4_4, rf_5_0, rf_5_1, rf_5_3, rf_5_4, rf_5_5, rf_5_7, rf_6_4, rf_6_9, rf_6_10, rf_6_11, rf_6_12, rf_6_5, rf_8_0, rf_9_7, rf_9_8, rf_10_2, rf_11_0, rf_11_5, rf_11_6, rf_11_7, rf_11_9, rf_11_10, rf_11_11, rf_11_12, rf_24, rf_27, hq, hS.2.2.1, ho.1, hO.2.2.1]
    split <;> rfl
  unfold fX1_hindranceOfMinute bX1_hindranceOfMinute_0 sMin
  simp (decide := true) only [Option.bind_some, cS_inl, cS_inr, gI_k, gR_k, pI_k, pR_k, cV_k, aI_k, tI_k, rZ_0, rZ_1, rZ_i, aB_k, tB_k, aZ_k, tZ_k, aR_24, aR_25, aR_27, rf_0_6, rf_0_7, rf_0_8, rf_0_9, rf_1_0, rf_1_1, rf_2_2, rf_3_6, rf_3_7, rf_3_8, rf_4_1, rf_4_3, rf_4_4, rf_5_0, rf_5_1, rf_5_3, rf_5_4, rf_5_5, rf_5_7, rf_6_4, rf_6_9, rf_6_10, rf_6_11, rf_6_12, rf_6_5, rf_8_0, rf_9_7, rf_9_8, rf_10_2, rf_11_0, rf_11_5, rf_11_6, rf_11_7, rf_11_9, rf_11_10, rf_11_11, rf_11_12, rf_24, rf_27, hq, hS.1, hS.2.1, hS.2.2.2.1, hS.2.2.2.2.1, ho.1, e0]
  by_cases c4 : nI m < P 4 k
  · simp [c4]
  · rw [if_neg c4, if_neg c4]
    by_cases c5 : nI m ≤ P 5 k
    · rw [if_pos c5, if_pos c5]
      unfold sLit
      by_cases c2 : P 2 k = 0
      · simp [c2]
      · rw [if_neg c2]
        by_cases c1 : P 1 k = 2
        · simp [c1]
        · rw [if_neg c1, c_lightOf ho ha hO hs hz hq hS c1 hm hD]
          simp (decide := true) only [Option.bind_some, cS_inl, cS_inr, gI_k, gR_k, pI_k, pR_k, cV_k, aI_k, tI_k, rZ_0, rZ_1, rZ_i, aB_k, tB_k, aZ_k, tZ_k, aR_24, aR_25, aR_27, rf_0_6, rf_0_7, rf_0_8, rf_0_9, rf_1_0, rf_1_1, rf_2_2, rf_3_6, rf_3_7, rf_3_8, rf_4_1, rf_4_3, rf_4_4, rf_5_0, rf_5_1, rf_5_3, rf_5_4, rf_5_5, rf_5_7, rf_6_4, rf_6_9, rf_6_10, rf_6_11, rf_6_12, rf_6_5, rf_8_0, rf_9_7, rf_9_8, rf_10_2, rf_11_0, rf_11_5, rf_11_6, rf_11_7, rf_11_9, rf_11_10, rf_11_11, rf_11_12, rf_24, rf_27, hq, hS.2.1, e0]
          rcases hok.2 with h | h | h
          · exact absurd h c2
          · cases sLt P st K k m <;> simp [h, c1, lgt]
          · cases sLt P st K k m <;> simp [h, c1, lgt]
    · rw [if_neg c5, if_neg c5]
theorem c_hind (ho : ooO o) (ha : stO a) (hp : plO p) (hO : OLk s o p a D K) (hs : SAt s a st K) (hz : bz st) (hi : st 1 = 0 ∨ st 1 = 1) (hk : k < 8) (hS : ShAt s (p + 1 + 7 + k) P k) (hok : okS P k) (hm : m < D) (hD : D ≤ 480) : fX1_hindrance N o (nI k) (nI m) (mk s) = some (.inl (sWhy P st K D k m), mk s) := by
  obtain ⟨p1, p2, p3, p4, p5⟩ := hp
  have hq := p4 k hk
  have i1 : inB (nI k) 8 = true := inA_nI hk (by omega)
  have e0 : bX1_hindrance_47 N o (nI m) (p + 1 + 7 + k) (mk s) = some (.inl (if (decide (P 1 k = 2) == decide (st 1 = 1)) = false then 3 else sMin P st K D k m), mk s) := by
    unfold bX1_hindrance_47
    simp (decide := true) only [Option.bind_some, cS_inl, cS_inr, gI_k, gR_k, pI_k, pR_k, cV_k, aI_k, tI_k, rZ_0, rZ_1, rZ_i, aB_k, tB_k, aZ_k, tZ_k, aR_24, aR_25, aR_27, rf_0_6, rf_0_7, rf_0_8, rf_0_9, rf_1_0, rf_1_1, rf_2_2, rf_3_6, rf_3_7, rf_3_8, rf_4_1, rf_4_3, rf_4_4, rf_5_0, rf_5_1, rf_5_3, rf_5_4, rf_5_5, rf_5_7, rf_6_4, rf_6_9, rf_6_10, rf_6_11, rf_6_12, rf_6_5, rf_8_0, rf_9_7, rf_9_8, rf_10_2, rf_11_0, rf_11_5, rf_11_6, rf_11_7, rf_11_9, rf_11_10, rf_11_11, rf_11_12, rf_24, rf_27, hq, c_place hq hS, ho.1, rf_1_3, hO.2.1, ha.1, hs.2.1, c_hindM ho ha hO hs hz hq hS hok hm hD]
    by_cases c : P 1 k = 2 <;> rcases hi with h | h <;> simp [c, h, sk_i]
  unfold fX1_hindrance bX1_hindrance_0 sWhy
  simp (decide := true) only [Option.bind_some, cS_inl, cS_inr, gI_k, gR_k, pI_k, pR_k, cV_k, aI_k, tI_k, rZ_0, rZ_1, rZ_i, aB_k, tB_k, aZ_k, tZ_k, aR_24, aR_25, aR_27, rf_0_6, rf_0_7, rf_0_8, rf_0_9, rf_1_0, rf_1_1, rf_2_2, rf_3_6, rf_3_7, rf_3_8, rf_4_1, rf_4_3, rf_4_4, rf_5_0, rf_5_1, rf_5_3, rf_5_4, rf_5_5, rf_5_7, rf_6_4, rf_6_9, rf_6_10, rf_6_11, rf_6_12, rf_6_5, rf_8_0, rf_9_7, rf_9_8, rf_10_2, rf_11_0, rf_11_5, rf_11_6, rf_11_7, rf_11_9, rf_11_10, rf_11_11, rf_11_12, rf_24, rf_27, ho.1, rf_1_2, rf_1_3, hO.1, hO.2.1, p1, p2, p3, i1, nI_clamp (show k < 2 ^ 31 by omega), ha.1, c_isHad ha hs, hq, hS.2.2.2.2.2, e0, sk_0]
  cases h1 : sBit (st 2) (nI k)
  · simp only [if_true, Bool.false_eq_true, if_false]
    by_cases h2 : P 6 k = -1
    · simp [h2]
    · cases h3 : sBit (st 2) (P 6 k) <;> simp [h2]
  · simp
theorem c_hasSky (ho : ooO o) (ha : stO a) (hO : OLk s o p a D K) (hs : SAt s a st K) (hq : kc q = 7) (hS : ShAt s q P k) : fX1_hasSkyLight N o q (mk s) = some (.inl (sk_i (sSk P st k)), mk s) := by
  unfold fX1_hasSkyLight bX1_hasSkyLight_0 bX1_hasSkyLight_35 sSk
  simp (decide := true) only [Option.bind_some, cS_inl, cS_inr, gI_k, gR_k, pI_k, pR_k, cV_k, aI_k, tI_k, rZ_0, rZ_1, rZ_i, aB_k, tB_k, aZ_k, tZ_k, aR_24, aR_25, aR_27, rf_0_6, rf_0_7, rf_0_8, rf_0_9, rf_1_0, rf_1_1, rf_2_2, rf_3_6, rf_3_7, rf_3_8, rf_4_1, rf_4_3, rf_4_4, rf_5_0, rf_5_1, rf_5_3, rf_5_4, rf_5_5, rf_5_7, rf_6_4, rf_6_9, rf_6_10, rf_6_11, rf_6_12, rf_6_5, rf_8_0, rf_9_7, rf_9_8, rf_10_2, rf_11_0, rf_11_5, rf_11_6, rf_11_7, rf_11_9, rf_11_10, rf_11_11, rf_11_12, rf_24, rf_27, hq, hS.1, ho.1, rf_1_3, hO.2.1, ha.1, hs.2.2.2.2.2.1, hs.2.2.2.2.2.2.1]
  by_cases c0 : P 1 k = 0
  · simp [c0, sk_i]
  · by_cases c1 : P 1 k = 1
    · by_cases c5 : st 5 = 0 <;> by_cases c6 : st 6 = 0 <;> simp [c1, c5, c6, sk_i]
    · simp [c0, c1, sk_i]
theorem c_spoilt (ho : ooO o) (ha : stO a) (hO : OLk s o p a D K) (hs : SAt s a st K) (hq : kc q = 7) (hS : ShAt s q P k) (hl : okL P k ℓ) (hm : m < D) (hD : D ≤ 480) : fX1_isSpoiltFrom N o q (nI m) (mk s) = some (.inl (sk_i (sSp P st K D k m ℓ)), mk s) := by
  have hl2 := hl.2
  have i1 : inB (nI m) 481 = true := inA_nI (by omega) (by omega)
  have hst := rl_le K (K m) (D - m) m
  unfold fX1_isSpoiltFrom bX1_isSpoiltFrom_0 sSp
  simp (decide := true) only [Option.bind_some, cS_inl, cS_inr, gI_k, gR_k, pI_k, pR_k, cV_k, aI_k, tI_k, rZ_0, rZ_1, rZ_i, aB_k, tB_k, aZ_k, tZ_k, aR_24, aR_25, aR_27, rf_0_6, rf_0_7, rf_0_8, rf_0_9, rf_1_0, rf_1_1, rf_2_2, rf_3_6, rf_3_7, rf_3_8, rf_4_1, rf_4_3, rf_4_4, rf_5_0, rf_5_1, rf_5_3, rf_5_4, rf_5_5, rf_5_7, rf_6_4, rf_6_9, rf_6_10, rf_6_11, rf_6_12, rf_6_5, rf_8_0, rf_9_7, rf_9_8, rf_10_2, rf_11_0, rf_11_5, rf_11_6, rf_11_7, rf_11_9, rf_11_10, rf_11_11, rf_11_12, rf_24, rf_27, ho.1, ho.2.1, ho.2.2.1, c_hasSky ho ha hO hs hq hS, hq, hS.2.2.1, hl.1, i1, nI_clamp (show m < 2 ^ 31 by omega), (hO.2.2.2 m (by omega) hm).1, sk_0]
  cases h : sSk P st k
  · simp [sk_i]
  · simp only [Bool.true_eq_false, if_false]
    by_cases c : stays K D m < ℓ
    · rw [if_neg (nI_ge c (by omega))]; simp [c, sk_i]
    · rw [if_pos (nI_le (by omega) (by unfold stays at c ⊢; omega))]; simp [c, sk_i]
theorem c_would (ho : ooO o) (ha : stO a) (hO : OLk s o p a D K) (hs : SAt s a st K) (hz : bz st) (hq : kc q = 7) (hS : ShAt s q P k) (hok : okS P k) (hl : okL P k ℓ) (hm : m < D) (hD : D ≤ 480) : fX1_wouldBeHad N o q (nI m) (mk s) = some (.inl (sk_i (sCan P st K D k m ℓ)), mk s) := by
  rw [sCan_sp hz hok hl hD hm]
  unfold fX1_wouldBeHad bX1_wouldBeHad_0
  simp (decide := true) only [Option.bind_some, cS_inl, cS_inr, gI_k, gR_k, pI_k, pR_k, cV_k, aI_k, tI_k, rZ_0, rZ_1, rZ_i, aB_k, tB_k, aZ_k, tZ_k, aR_24, aR_25, aR_27, rf_0_6, rf_0_7, rf_0_8, rf_0_9, rf_1_0, rf_1_1, rf_2_2, rf_3_6, rf_3_7, rf_3_8, rf_4_1, rf_4_3, rf_4_4, rf_5_0, rf_5_1, rf_5_3, rf_5_4, rf_5_5, rf_5_7, rf_6_4, rf_6_9, rf_6_10, rf_6_11, rf_6_12, rf_6_5, rf_8_0, rf_9_7, rf_9_8, rf_10_2, rf_11_0, rf_11_5, rf_11_6, rf_11_7, rf_11_9, rf_11_10, rf_11_11, rf_11_12, rf_24, rf_27, ho.1, c_hindM ho ha hO hs hz hq hS hok hm hD, c_spoilt ho ha hO hs hq hS hl hm hD, sk_0]
  by_cases c : sMin P st K D k m = 0
  · cases sSp P st K D k m ℓ <;> simp [c, sk_i]
  · simp [c, sk_i]
theorem c_shoots (ho : ooO o) (ha : stO a) (hoa : a + 3 < o) (hp : plO p) (hO : OLk s o p a D K) (hs : SAt s a st K) (hz : bz st) (hk : k < 8) (hS : ShAt s (p + 1 + 7 + k) P k) (hok : okS P k) (hl : okL P k ℓ) (hn : st 0 = nI m) (hm : m + ℓ ≤ D) (hD : D ≤ 480) : ∃ s', fX1_shoots N o (nI k) (mk s) = some (.inl (sk_i (sEn P st K D k m ℓ)), mk s') ∧ SAt s' a (sTk st k (sGo P st K k m (ℓ - 1) 1) (sEn P st K D k m ℓ)) K ∧ Fr (stD a) s s' := by
  have hl2 := hl.2
  obtain ⟨p1, p2, p3, p4, p5⟩ := hp
  have hq := p4 k hk
  have i1 : inB (nI k) 8 = true := inA_nI hk (by omega)
  have i2 : inB (nI m) 481 = true := inA_nI (by omega) (by omega)
  have w : ∀ j, stD a a j := fun j => ⟨by omega, by omega⟩
  have hn2 : s.1 a 0 = nI m := hs.1.trans hn
  have hsp := c_spoilt (N := N) ho ha hO hs hq hS hl (show m < D by omega) hD
  have ao : ¬ o = a := by omega
  obtain ⟨h0, h1, h2, h3, h4, h5, h6, h7, h8⟩ := id hs
  have ak : ¬ a + 1 = a := by omega
  rw [sGo_sp hz hok hl2.1 hm, sEn_sp hz hok hl2.1 hm]
  have key : ∀ n : Nat, ∃ s', bX1_shoots_48 N o (nI k) (sk_i (sSp P st K D k m ℓ)) (nI n) (mk s) = some (.inl (sk_i (!sSp P st K D k m ℓ)), mk s') ∧ SAt s' a (sTk st k n (!sSp P st K D k m ℓ)) K ∧ Fr (stD a) s s' := by
    intro n
    unfold bX1_shoots_48 bX1_shoots_121
    simp (decide := true) only [Option.bind_some, cS_inl, cS_inr, gI_k, gR_k, pI_k, pR_k, cV_k, aI_k, tI_k, rZ_0, rZ_1, rZ_i, aB_k, tB_k, aZ_k, tZ_k, aR_24, aR_25, aR_27, rf_0_6, rf_0_7, rf_0_8, rf_0_9, rf_1_0, rf_1_1, rf_2_2, rf_3_6, rf_3_7, rf_3_8, rf_4_1, rf_4_3, rf_4_4, rf_5_0, rf_5_1, rf_5_3, rf_5_4, rf_5_5, rf_5_7, rf_6_4, rf_6_9, rf_6_10, rf_6_11, rf_6_12, rf_6_5, rf_8_0, rf_9_7, rf_9_8, rf_10_2, rf_11_0, rf_11_5, rf_11_6, rf_11_7, rf_11_9, rf_11_10, rf_11_11, rf_11_12, rf_24, rf_27, ho.1, rf_1_3, hO.2.1, sI_r, ha.1, ha.2.1, ha.2.2.1, i1, nI_clamp (show k < 2 ^ 31 by omega), sI_c, ao, ak, false_and, and_true, and_false, if_true, if_false, h0, h2, h4, sk_0]
    cases sSp P st K D k m ℓ
    · simp only [Bool.false_eq_true, if_true, if_false]
      refine ⟨_, rfl, ⟨?_, ?_, ?_, ?_, ?_, ?_, ?_, fun j hj => ?_, fun m hm => ?_⟩, Fr_t (Fr_t (Fr_t (Fr_sI (w 0)) (Fr_sI (w 3))) (Fr_sI (w 4))) (Fr_sI (w 2))⟩
      · simp [sI_c, sTk]
      · simp [sI_c, sTk, h1]
      · simp [sI_c, sTk]
      · simp [sI_c, sTk]
      · simp [sI_c, sTk]
      · simp [sI_c, sTk, h5]
      · simp [sI_c, sTk, h6]
      · simp [sI_c, sTk, h7 j hj, show ¬ 7 + j = 0 by omega, show ¬ 7 + j = 4 by omega, show ¬ 7 + j = 3 by omega, show ¬ 7 + j = 2 by omega]
      · simp only [sI_c, show ¬ a + 2 + 1 = a by omega, show ¬ a + 2 + 1 = a + 1 by omega, false_and, if_false]; exact h8 m hm
    · simp only [Bool.true_eq_false, if_false]
      refine ⟨_, rfl, ⟨?_, ?_, ?_, ?_, ?_, ?_, ?_, fun j hj => ?_, fun m hm => ?_⟩, Fr_t (Fr_t (Fr_t (Fr_sI (w 0)) (Fr_sI (w 3))) (Fr_sI (w 4))) (Fr_sI ⟨by omega, by omega⟩)⟩
      · simp [sI_c, sTk]
      · simp [sI_c, sTk, h1, show ¬ 1 = 7 + k by omega]
      · simp [sI_c, sTk, h2, show ¬ 2 = 7 + k by omega]
      · simp [sI_c, sTk]
      · simp [sI_c, sTk]
      · simp [sI_c, sTk, h5, show ¬ 5 = 7 + k by omega]
      · simp [sI_c, sTk, h6, show ¬ 6 = 7 + k by omega]
      · by_cases e : j = k
        · subst e
          simp [sI_c, sTk, h7 j hj, show ¬ 7 + j = 0 by omega, show ¬ 7 + j = 4 by omega, show ¬ 7 + j = 3 by omega]
        · simp [sI_c, sTk, e, h7 j hj, show ¬ 7 + j = 0 by omega, show ¬ 7 + j = 4 by omega, show ¬ 7 + j = 3 by omega, show ¬ 7 + j = 7 + k by omega]
      · simp only [sI_c, show ¬ a + 2 + 1 = a by omega, show ¬ a + 2 + 1 = a + 1 by omega, false_and, if_false]; exact h8 m hm
  unfold fX1_shoots bX1_shoots_0
  simp (decide := true) only [Option.bind_some, cS_inl, cS_inr, gI_k, gR_k, pI_k, pR_k, cV_k, aI_k, tI_k, rZ_0, rZ_1, rZ_i, aB_k, tB_k, aZ_k, tZ_k, aR_24, aR_25, aR_27, rf_0_6, rf_0_7, rf_0_8, rf_0_9, rf_1_0, rf_1_1, rf_2_2, rf_3_6, rf_3_7, rf_3_8, rf_4_1, rf_4_3, rf_4_4, rf_5_0, rf_5_1, rf_5_3, rf_5_4, rf_5_5, rf_5_7, rf_6_4, rf_6_9, rf_6_10, rf_6_11, rf_6_12, rf_6_5, rf_8_0, rf_9_7, rf_9_8, rf_10_2, rf_11_0, rf_11_5, rf_11_6, rf_11_7, rf_11_9, rf_11_10, rf_11_11, rf_11_12, rf_24, rf_27, ho.1, ho.2.1, ho.2.2.1, rf_1_2, rf_1_3, hO.1, hO.2.1, p1, p2, p3, i1, i2, nI_clamp (show k < 2 ^ 31 by omega), nI_clamp (show m < 2 ^ 31 by omega), ha.1, hn2, hsp, hq, hS.2.2.1, hl.1, (hO.2.2.2 m (by omega) (show m < D by omega)).1, sk_0, nI_1]
  cases h : sSp P st K D k m ℓ
  · have := key ℓ
    rw [h] at this
    simpa using this
  · have := key (stays K D m + 1)
    rw [h] at this
    simpa using this
end CH
