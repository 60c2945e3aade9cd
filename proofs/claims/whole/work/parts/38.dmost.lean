/- needs: 38.cquery -/
section CQT
variable {N : Nat} {s : sg} {K : Nat → Bool} {st : Nat → Int32} {P : pln} {p a n D mv E H k m w : Nat}
theorem c_most (hN1 : 1000 ≤ N) (W : Wp P n D mv) (Z : Ws st n D) (h : CQ s p P n D mv st K) (hw : w ≤ 2) : ∃ s', fX11_most N 0 (nI w) (mk s) = some (.inl (aMost P st K n D mv w), mk s') ∧ Fr cQ s s' := by
  have hpO := plA_O h.1
  have hnow := (Ws_n Z W.1 W.2.2.2.1).1.2
  obtain ⟨s1, a1, a2, a3⟩ := c_findMost (N := N) (a := 38) hN1 W Z W.2.2.2.1 hnow h.1 h.2.1 (Or.inl rfl) h.2.2.1 h.2.2.2
  refine ⟨s1, ?_, Fr_m a3 (fun x j => seD_cQ)⟩
  unfold fX11_most bX11_most_0
  simp (decide := true) only [ob_s, cS_l, cS_r, gI_k, gR_k, pI_k, pR_k, cV_k, aI_k, tI_k, rZ_0, rZ_1, rZ_i, aR_24, aR_25, aZ_k, tZ_k, rf_3_6, rf_3_7, rf_3_8, rf_5_0, rf_5_1, rf_5_3, rf_5_4, rf_5_5, rf_5_7, rf_6_4, rf_6_11, rf_1_0, rf_1_1, rf_0_6, rf_9_7, rf_9_8, rf_8_0, rf_11_0, rf_11_5, rf_11_6, rf_11_7, rf_11_9, rf_11_10, rf_11_11, rf_11_12, rf_11_3, rf_11_4, Nat.reduceAdd, Nat.zero_add, kc_0, kc_1, kc_34, kc_35, kc_36, kc_37, kc_38, kc_39, kc_40, kc_41, kc_42, kc_43, kc_44, kc_45, kc_46, kc_207, kc_208, kc_209, kc_210, kc_211, kc_212, kc_213, kc_214, kc_215, kc_216, kc_377, kc_378, kc_379, kc_380, kc_381, kc_382, kc_383, kc_384, kc_385, kc_386, kc_387, kc_388, kc_389, kc_390, kc_391, kc_392, kc_393, kc_394, kc_395, kc_414, kc_415, kc_416, kc_417, kc_418, kn_1, kn_36, kn_39, kn_41, kn_42, kn_43, kn_44, kn_45, kn_46, kn_209, kn_211, kn_212, kn_213, kn_214, kn_215, kn_216, kn_378, kn_380, kn_382, kn_383, kn_385, kn_386, kn_388, kn_390, kn_392, kn_393, kn_395, kn_414, kn_415, kn_417, kn_418, c_reqWhat (l := 2) hw (by omega), show (2 : Int32) = nI 2 from rfl, h.2.1, hpO.1, h.2.2.1.1, a1, a2.1.1, a2.1.2.1, a2.1.2.2]
  unfold aMost
  rcases (show w = 0 ∨ w = 1 ∨ w = 2 by omega) with rfl | rfl | rfl <;> simp (decide := true)
theorem c_most' {x : Int32} (hx : x < 0 ∨ (¬ x < 0 ∧ nI 3 ≤ x)) : fX11_most N 0 x (mk s) = some (.inr 1, mk s) := by
  unfold fX11_most bX11_most_0
  rw [show (2 : Int32) = nI 2 from rfl, c_reqWhat' (l := 2) hx (by omega)]
  rfl
theorem c_shorter (hN1 : 1000 ≤ N) (W : Wp P n D mv) (Z : Ws st n D) (h : CQ s p P n D mv st K) (hw : w ≤ 480) : ∃ s', fX11_shorter N 0 (nI w) (mk s) = some (.inl (nI (pcf (MS n (TT P st K (max (nowN st) (D - w)) n mv (2 ^ n - 1))))), mk s') ∧ Fr cQ s s' := by
  have hpO := plA_O h.1
  have hD := W.2.2.2.1
  obtain ⟨⟨h0, h0'⟩, _⟩ := Ws_n Z W.1 W.2.2.2.1
  obtain ⟨s1, a1, a2, a3⟩ := c_findMost (N := N) (a := 38) (E := max (nowN st) (D - w)) hN1 W Z (by omega) (by omega) h.1 h.2.1 (Or.inl rfl) h.2.2.1 h.2.2.2
  refine ⟨s1, ?_, Fr_m a3 (fun x j => seD_cQ)⟩
  have e : mxI (nI (nowN st)) (nI D - nI w) = nI (max (nowN st) (D - w)) := by
    by_cases c : w ≤ D
    · rw [nI_sub c, mx_nI (by omega) (by omega)]
    · have hneg : (nI D - nI w).toInt = (D : Int) - w := by
        rw [Int32.toInt_sub, nI_toInt (by omega), nI_toInt (by omega)]
        exact Int.bmod_eq_of_le (by omega) (by omega)
      unfold mxI
      rw [if_neg]
      · rw [show max (nowN st) (D - w) = nowN st by omega]
      · rw [i32_lt, hneg, nI_toInt (by omega)]
        omega
  have e0 : s.1 38 0 = nI (nowN st) := h.2.2.2.1.trans h0
  unfold fX11_shorter bX11_shorter_0
  rw [if_neg (nI_pos (by omega)), if_pos (show nI w ≤ 480 from nI_le (b := 480) hw (by omega))]
  simp (decide := true) only [ob_s, cS_l, cS_r, gI_k, gR_k, pI_k, pR_k, cV_k, aI_k, tI_k, rZ_0, rZ_1, rZ_i, aR_24, aR_25, aZ_k, tZ_k, rf_3_6, rf_3_7, rf_3_8, rf_5_0, rf_5_1, rf_5_3, rf_5_4, rf_5_5, rf_5_7, rf_6_4, rf_6_11, rf_1_0, rf_1_1, rf_0_6, rf_9_7, rf_9_8, rf_8_0, rf_11_0, rf_11_5, rf_11_6, rf_11_7, rf_11_9, rf_11_10, rf_11_11, rf_11_12, rf_11_3, rf_11_4, Nat.reduceAdd, Nat.zero_add, kc_0, kc_1, kc_34, kc_35, kc_36, kc_37, kc_38, kc_39, kc_40, kc_41, kc_42, kc_43, kc_44, kc_45, kc_46, kc_207, kc_208, kc_209, kc_210, kc_211, kc_212, kc_213, kc_214, kc_215, kc_216, kc_377, kc_378, kc_379, kc_380, kc_381, kc_382, kc_383, kc_384, kc_385, kc_386, kc_387, kc_388, kc_389, kc_390, kc_391, kc_392, kc_393, kc_394, kc_395, kc_414, kc_415, kc_416, kc_417, kc_418, kn_1, kn_36, kn_39, kn_41, kn_42, kn_43, kn_44, kn_45, kn_46, kn_209, kn_211, kn_212, kn_213, kn_214, kn_215, kn_216, kn_378, kn_380, kn_382, kn_383, kn_385, kn_386, kn_388, kn_390, kn_392, kn_393, kn_395, kn_414, kn_415, kn_417, kn_418, h.2.1, hpO.1, h.2.2.1.1, e0, e, a1, a2.1.1]
theorem c_shorter' {x : Int32} (hx : x < 0 ∨ (¬ x < 0 ∧ nI 481 ≤ x)) : fX11_shorter N 0 x (mk s) = some (.inr 0, mk s) := by
  unfold fX11_shorter bX11_shorter_0
  rcases hx with hx | hx
  · rw [if_pos hx]; rfl
  · rw [if_neg hx.1, if_neg]
    · rfl
    · intro q
      have h1 := hx.2
      rw [show (480 : Int32) = nI 480 from rfl, i32_le, nI_toInt (by omega)] at q
      rw [i32_le, nI_toInt (by omega)] at h1
      omega
theorem nbit_i (w k : Nat) (hw : w < 256) (hk : k < 8) : nI w &&& (((1 : Int32) <<< (nI k &&& 31)) ^^^ (-1 : Int32)) = nI (anN w (2 ^ k)) := by
  refine b_ext fun i hi => ?_
  rw [b_and, b_xor, bt_nI _ _ hi, b_shl1 k (by omega) hi, b_m1 i hi, bt_nI _ _ hi, anN_tb hw, Nat.testBit_two_pow]
  by_cases e : i = k
  · simp [e]
  · simp [e, Ne.symm e]
theorem anN_sw (w A B : Nat) (hw : w < 256) : anN (anN w A) B = anN (anN w B) A := by
  apply Nat.eq_of_testBit_eq
  intro j
  have h1 := anN_le w A
  have h2 := anN_le w B
  rw [anN_tb (by omega), anN_tb hw, anN_tb (by omega), anN_tb hw]
  cases w.testBit j <;> cases A.testBit j <;> cases B.testBit j <;> rfl
/-- without a shot -/
def aWout (P : pln) (st : Nat → Int32) (K : Nat → Bool) (n D mv k : Nat) : Int32 := nI (pcf (MS n (TT P st K D n mv (2 ^ n - 1)))) - nI (pcf (MS n (TT P st K D n mv (anN (2 ^ n - 1) (2 ^ k)))))
theorem c_without (hN1 : 1000 ≤ N) (W : Wp P n D mv) (Z : Ws st n D) (h : CQ s p P n D mv st K) (hk : k < n) : ∃ s', fX11_without N 0 (nI k) (mk s) = some (.inl (aWout P st K n D mv k), mk s') ∧ Fr cQ s s' := by
  have hpO := plA_O h.1
  have hp2 := plA_le h.1
  have hn8 := W.1
  have hD := W.2.2.2.1
  have hp8 := pn8 hn8
  have hpos := Nat.two_pow_pos n
  have hnow := (Ws_n Z W.1 W.2.2.2.1).1.2
  have nq : ∀ x j, x < 394 → ¬ seD x j := fun x j h q => by unfold seD at q; omega
  obtain ⟨s1, a1, a2, a3⟩ := c_findMost (N := N) (a := 38) hN1 W Z hD hnow h.1 h.2.1 (Or.inl rfl) h.2.2.1 h.2.2.2
  have hl1 := anN_le (2 ^ n - 1) (hN st)
  have hw : anN (anN (2 ^ n - 1) (hN st)) (2 ^ k) < 2 ^ n := anN_lt (by omega)
  have hP1 := CPl_fr h.2.2.1 hn8 a3 (fun x j h1 h2 _ => nq x j (by omega))
  have hs1 := SAt_fr h.2.2.2 a3 (fun x j h1 h2 => nq x j (by omega))
  obtain ⟨s2, b1, b2, b3⟩ := c_spreads (N := N) hN1 W Z hD hnow h.1 (Or.inl rfl) hw hP1 hs1 a2.2.2.1 a2.2.2.2.1
  have e1 : anN (anN (2 ^ n - 1) (hN st)) (2 ^ k) = anN (anN (2 ^ n - 1) (2 ^ k)) (hN st) := anN_sw _ _ _ (by omega)
  have h8 : s2.1 394 8 = nI D := (b3.1 _ _ (by omega)).trans a2.2.2.1.2.2.1
  have b2' : CTab s2 (anN (anN (2 ^ n - 1) (hN st)) (2 ^ k)) mv (TT P st K D n mv (anN (2 ^ n - 1) (2 ^ k))) := by
    unfold TT
    rw [← e1]
    exact b2
  obtain ⟨s3, d1, d2, d3⟩ := c_picksMost (N := N) (s := s2) hN1 W hD hw (TT_TE (K := K) W hD Z hnow (anN (2 ^ n - 1) (2 ^ k))) (by rw [TT_0 W hD Z hnow]; omega) h8 b2'
  refine ⟨s3, ?_, Fr_m (Fr_t (Fr_t a3 (Fr_m b3 (fun x j q => by unfold seD; omega))) (Fr_m d3 (fun x j q => by unfold seD; omega))) (fun x j => seD_cQ)⟩
  unfold fX11_without bX11_without_0
  simp (decide := true) only [ob_s, cS_l, cS_r, gI_k, gR_k, pI_k, pR_k, cV_k, aI_k, tI_k, rZ_0, rZ_1, rZ_i, aR_24, aR_25, aZ_k, tZ_k, rf_3_6, rf_3_7, rf_3_8, rf_5_0, rf_5_1, rf_5_3, rf_5_4, rf_5_5, rf_5_7, rf_6_4, rf_6_11, rf_1_0, rf_1_1, rf_0_6, rf_9_7, rf_9_8, rf_8_0, rf_11_0, rf_11_5, rf_11_6, rf_11_7, rf_11_9, rf_11_10, rf_11_11, rf_11_12, rf_11_3, rf_11_4, Nat.reduceAdd, Nat.zero_add, kc_0, kc_1, kc_34, kc_35, kc_36, kc_37, kc_38, kc_39, kc_40, kc_41, kc_42, kc_43, kc_44, kc_45, kc_46, kc_207, kc_208, kc_209, kc_210, kc_211, kc_212, kc_213, kc_214, kc_215, kc_216, kc_377, kc_378, kc_379, kc_380, kc_381, kc_382, kc_383, kc_384, kc_385, kc_386, kc_387, kc_388, kc_389, kc_390, kc_391, kc_392, kc_393, kc_394, kc_395, kc_414, kc_415, kc_416, kc_417, kc_418, kn_1, kn_36, kn_39, kn_41, kn_42, kn_43, kn_44, kn_45, kn_46, kn_209, kn_211, kn_212, kn_213, kn_214, kn_215, kn_216, kn_378, kn_380, kn_382, kn_383, kn_385, kn_386, kn_388, kn_390, kn_392, kn_393, kn_395, kn_414, kn_415, kn_417, kn_418, c_reqShot h hk hn8, h.2.1, hpO.1, h.2.2.1.1, a1, a2.1.1, a2.2.2.2.2, nbit_i _ k (show anN (2 ^ n - 1) (hN st) < 256 by omega) (by omega), b1, d1, d2.1]
  rfl
theorem c_without' {x : Int32} (h : CQ s p P n D mv st K) (hx : x < 0 ∨ (¬ x < 0 ∧ nI n ≤ x)) : fX11_without N 0 x (mk s) = some (.inr 1, mk s) := by
  unfold fX11_without bX11_without_0
  simp (decide := true) only [ob_s, cS_l, cS_r, gI_k, gR_k, pI_k, pR_k, cV_k, aI_k, tI_k, rZ_0, rZ_1, rZ_i, aR_24, aR_25, aZ_k, tZ_k, rf_3_6, rf_3_7, rf_3_8, rf_5_0, rf_5_1, rf_5_3, rf_5_4, rf_5_5, rf_5_7, rf_6_4, rf_6_11, rf_1_0, rf_1_1, rf_0_6, rf_9_7, rf_9_8, rf_8_0, rf_11_0, rf_11_5, rf_11_6, rf_11_7, rf_11_9, rf_11_10, rf_11_11, rf_11_12, rf_11_3, rf_11_4, Nat.reduceAdd, Nat.zero_add, kc_0, kc_1, kc_34, kc_35, kc_36, kc_37, kc_38, kc_39, kc_40, kc_41, kc_42, kc_43, kc_44, kc_45, kc_46, kc_207, kc_208, kc_209, kc_210, kc_211, kc_212, kc_213, kc_214, kc_215, kc_216, kc_377, kc_378, kc_379, kc_380, kc_381, kc_382, kc_383, kc_384, kc_385, kc_386, kc_387, kc_388, kc_389, kc_390, kc_391, kc_392, kc_393, kc_394, kc_395, kc_414, kc_415, kc_416, kc_417, kc_418, kn_1, kn_36, kn_39, kn_41, kn_42, kn_43, kn_44, kn_45, kn_46, kn_209, kn_211, kn_212, kn_213, kn_214, kn_215, kn_216, kn_378, kn_380, kn_382, kn_383, kn_385, kn_386, kn_388, kn_390, kn_392, kn_393, kn_395, kn_414, kn_415, kn_417, kn_418, c_reqShot' h hx]
/-- what lamps or silk are worth -/
def aWth (P : pln) (st : Nat → Int32) (K : Nat → Bool) (n D mv w : Nat) : Int32 := nI (pcf (MS n (TT P (sOn st w true) K D n mv (2 ^ n - 1)))) - nI (pcf (MS n (TT P (sOn st w false) K D n mv (2 ^ n - 1))))
theorem Ws_on (Z : Ws st n D) (w : Nat) (b : Bool) (hw : w < 2) : Ws (sOn st w b) n D ∧ nowN (sOn st w b) = nowN st := by
  obtain ⟨h1, h2, h3, h4, h5⟩ := Z
  have e : ∀ j, j < 3 → sOn st w b j = st j := fun j hj => if_neg (by omega)
  refine ⟨⟨by rw [e 0 (by omega)]; exact h1, by rw [e 1 (by omega)]; exact h2, by rw [e 2 (by omega)]; exact h3, ?_, ?_⟩, by unfold nowN; rw [e 0 (by omega)]⟩
  · unfold sOn
    by_cases c : 5 = 5 + w
    · rw [if_pos c]; cases b <;> simp [sk_i]
    · rw [if_neg c]; exact h4
  · unfold sOn
    by_cases c : 6 = 5 + w
    · rw [if_pos c]; cases b <;> simp [sk_i]
    · rw [if_neg c]; exact h5
theorem sOn_on (st : Nat → Int32) (w : Nat) (b b' : Bool) : sOn (sOn st w b) w b' = sOn st w b' := by
  funext j
  unfold sOn
  by_cases c : j = 5 + w
  · rw [if_pos c, if_pos c]
  · rw [if_neg c, if_neg c, if_neg c]
theorem c_worth (hN1 : 1000 ≤ N) (W : Wp P n D mv) (Z : Ws st n D) (h : CQ s p P n D mv st K) (hw : w < 2) : ∃ s', fX11_worth N 0 (nI w) (mk s) = some (.inl (aWth P st K n D mv w), mk s') ∧ Fr cQ s s' := by
  have hpO := plA_O h.1
  have hp2 := plA_le h.1
  have hn8 := W.1
  have hD := W.2.2.2.1
  have hnow := (Ws_n Z W.1 W.2.2.2.1).1.2
  have nq : ∀ x j, x < 394 → ¬ seD x j := fun x j h q => by unfold seD at q; omega
  have ns : ∀ x j, x < 377 → ¬ stD 377 x j := fun x j h q => by unfold stD at q; omega
  obtain ⟨s1, a1, a2, a3⟩ := c_stCopy (N := N) (a := 377) (b := 38) (stA_O (Or.inr (Or.inl rfl))) (stA_O (Or.inl rfl)) (by omega) h.2.2.2 Z.2.2.2
  obtain ⟨s2, b1, b2, b3⟩ := c_putOn (N := N) (w := w) (on := true) (stA_O (Or.inr (Or.inl rfl))) a2 hw
  have f2 := Fr_t a3 b3
  have hP2 := CPl_fr h.2.2.1 hn8 f2 (fun x j h1 h2 _ => ns x j (by omega))
  have h32 : s2.2.1 0 3 = p := (f2.2.1 _ _ (ns _ _ (by omega))).trans h.2.1
  have Z1 := Ws_on Z w true hw
  obtain ⟨s3, d1, d2, d3⟩ := c_findMost (N := N) (a := 377) hN1 W Z1.1 hD (by rw [Z1.2]; exact hnow) h.1 h32 (Or.inr (Or.inl rfl)) hP2 b2
  have hs3 := SAt_fr b2 d3 (fun x j h1 h2 => nq x j (by omega))
  obtain ⟨s4, g1, g2, g3⟩ := c_putOn (N := N) (w := w) (on := false) (stA_O (Or.inr (Or.inl rfl))) hs3 hw
  rw [sOn_on] at g2
  have hP4 := CPl_fr (CPl_fr hP2 hn8 d3 (fun x j h1 h2 _ => nq x j (by omega))) hn8 g3 (fun x j h1 h2 _ => ns x j (by omega))
  have h34 : s4.2.1 0 3 = p := (g3.2.1 _ _ (ns _ _ (by omega))).trans ((d3.2.1 _ _ (nq _ _ (by omega))).trans h32)
  have Z0 := Ws_on Z w false hw
  obtain ⟨s5, k1, k2, k3⟩ := c_findMost (N := N) (a := 377) hN1 W Z0.1 hD (by rw [Z0.2]; exact hnow) h.1 h34 (Or.inr (Or.inl rfl)) hP4 g2
  have h33 : s3.2.1 0 3 = p := (d3.2.1 _ _ (nq _ _ (by omega))).trans h32
  have q1 : ∀ {x j : Nat}, stD 377 x j → cQ x j := fun q => by unfold stD at q; unfold cQ; omega
  refine ⟨s5, ?_, Fr_t (Fr_t (Fr_t (Fr_m f2 (fun x j => q1)) (Fr_m d3 (fun x j => seD_cQ))) (Fr_m g3 (fun x j => q1))) (Fr_m k3 (fun x j => seD_cQ))⟩
  unfold fX11_worth bX11_worth_0
  rw [show (1 : Int32) = sk_i true from rfl] 
  rw [show (0 : Int32) = sk_i false from rfl] at *
  simp (decide := true) only [ob_s, cS_l, cS_r, gI_k, gR_k, pI_k, pR_k, cV_k, aI_k, tI_k, rZ_0, rZ_1, rZ_i, aR_24, aR_25, aZ_k, tZ_k, rf_3_6, rf_3_7, rf_3_8, rf_5_0, rf_5_1, rf_5_3, rf_5_4, rf_5_5, rf_5_7, rf_6_4, rf_6_11, rf_1_0, rf_1_1, rf_0_6, rf_9_7, rf_9_8, rf_8_0, rf_11_0, rf_11_5, rf_11_6, rf_11_7, rf_11_9, rf_11_10, rf_11_11, rf_11_12, rf_11_3, rf_11_4, Nat.reduceAdd, Nat.zero_add, kc_0, kc_1, kc_34, kc_35, kc_36, kc_37, kc_38, kc_39, kc_40, kc_41, kc_42, kc_43, kc_44, kc_45, kc_46, kc_207, kc_208, kc_209, kc_210, kc_211, kc_212, kc_213, kc_214, kc_215, kc_216, kc_377, kc_378, kc_379, kc_380, kc_381, kc_382, kc_383, kc_384, kc_385, kc_386, kc_387, kc_388, kc_389, kc_390, kc_391, kc_392, kc_393, kc_394, kc_395, kc_414, kc_415, kc_416, kc_417, kc_418, kn_1, kn_36, kn_39, kn_41, kn_42, kn_43, kn_44, kn_45, kn_46, kn_209, kn_211, kn_212, kn_213, kn_214, kn_215, kn_216, kn_378, kn_380, kn_382, kn_383, kn_385, kn_386, kn_388, kn_390, kn_392, kn_393, kn_395, kn_414, kn_415, kn_417, kn_418, show sk_i true = nI 1 from rfl, c_reqWhat (l := 1) (show w ≤ 1 by omega) (by omega)]
  simp (decide := true) only [ob_s, cS_l, cS_r, gI_k, gR_k, pI_k, pR_k, cV_k, aI_k, tI_k, rZ_0, rZ_1, rZ_i, aR_24, aR_25, aZ_k, tZ_k, rf_3_6, rf_3_7, rf_3_8, rf_5_0, rf_5_1, rf_5_3, rf_5_4, rf_5_5, rf_5_7, rf_6_4, rf_6_11, rf_1_0, rf_1_1, rf_0_6, rf_9_7, rf_9_8, rf_8_0, rf_11_0, rf_11_5, rf_11_6, rf_11_7, rf_11_9, rf_11_10, rf_11_11, rf_11_12, rf_11_3, rf_11_4, Nat.reduceAdd, Nat.zero_add, kc_0, kc_1, kc_34, kc_35, kc_36, kc_37, kc_38, kc_39, kc_40, kc_41, kc_42, kc_43, kc_44, kc_45, kc_46, kc_207, kc_208, kc_209, kc_210, kc_211, kc_212, kc_213, kc_214, kc_215, kc_216, kc_377, kc_378, kc_379, kc_380, kc_381, kc_382, kc_383, kc_384, kc_385, kc_386, kc_387, kc_388, kc_389, kc_390, kc_391, kc_392, kc_393, kc_394, kc_395, kc_414, kc_415, kc_416, kc_417, kc_418, kn_1, kn_36, kn_39, kn_41, kn_42, kn_43, kn_44, kn_45, kn_46, kn_209, kn_211, kn_212, kn_213, kn_214, kn_215, kn_216, kn_378, kn_380, kn_382, kn_383, kn_385, kn_386, kn_388, kn_390, kn_392, kn_393, kn_395, kn_414, kn_415, kn_417, kn_418, show nI 1 = sk_i true from rfl, a1, b1, h32, hpO.1, hP2.1, d1, d2.1.1, g1, h34, hP4.1, k1, k2.1.1]
  rfl
theorem c_worth' {x : Int32} (hx : x < 0 ∨ (¬ x < 0 ∧ nI 2 ≤ x)) : fX11_worth N 0 x (mk s) = some (.inr 1, mk s) := by
  unfold fX11_worth bX11_worth_0
  rw [show (1 : Int32) = nI 1 from rfl, c_reqWhat' (l := 1) hx (by omega)]
  rfl
end CQT
