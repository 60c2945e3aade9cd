/- needs: 38.cquery -/
/-! the class's questions: a set, the order, going inside, chances -/
theorem all_i {n : Nat} (hn : n ≤ 8) : (1 : Int32) <<< (nI n &&& 31) - 1 = nI (2 ^ n - 1) := by
  rw [(shl_n n hn).1, show (1 : Int32) = nI 1 from rfl, nI_sub (Nat.two_pow_pos n)]
section CR
variable {N : Nat} {s : sg} {K : Nat → Bool} {st : Nat → Int32} {P : pln} {p a n D mv E H k m w : Nat}
theorem anN_dis {w H : Nat} (hw : w < 256) (h : w &&& H = 0) : anN w H = w := by
  apply Nat.eq_of_testBit_eq
  intro j
  rw [anN_tb hw]
  have := congrArg (fun x => x.testBit j) h
  simp only [Nat.testBit_and, Nat.zero_testBit] at this
  cases e1 : w.testBit j <;> cases e2 : H.testBit j <;> simp_all
theorem and_nI (x y : Nat) : nI x &&& nI y = nI (x &&& y) := b_ext fun i hi => by rw [b_and, bt_nI _ _ hi, bt_nI _ _ hi, bt_nI _ _ hi, Nat.testBit_and]
/-- a set: by when -/
def aSoon (P : pln) (st : Nat → Int32) (K : Nat → Bool) (n D mv w : Nat) : Int32 := if sn (TT P st K D n mv w) w < 100000 then nI (sn (TT P st K D n mv w) w) else -1
theorem c_soonest (hN1 : 1000 ≤ N) (W : Wp P n D mv) (Z : Ws st n D) (h : CQ s p P n D mv st K) (hw : w < 2 ^ n) (hd : w &&& hN st = 0) : ∃ s', fX11_soonest N 0 (nI w) (mk s) = some (.inl (aSoon P st K n D mv w), mk s') ∧ Fr cQ s s' := by
  have hpO := plA_O h.1
  have hp2 := plA_le h.1
  have hn8 := W.1
  have hD := W.2.2.2.1
  have hp8 := pn8 hn8
  have hpos := Nat.two_pow_pos n
  have hmv := W.2.2.2.2.2.1
  obtain ⟨⟨h0, hnow⟩, _, ⟨h2, h2'⟩⟩ := Ws_n Z W.1 W.2.2.2.1
  have nq : ∀ x j, x < 394 → ¬ seD x j := fun x j h q => by unfold seD at q; omega
  obtain ⟨s1, a1, a2, a3, a4, a5⟩ := c_prepares (N := N) (a := 38) hN1 W hD h.1 (Or.inl rfl) Z.2.2.2 h2 h.2.2.1 h.2.2.2
  have hP1 := CPl_fr h.2.2.1 hn8 a5 (fun x j h1 h2 _ => nq x j (by omega))
  have hs1 := SAt_fr h.2.2.2 a5 (fun x j h1 h2 => nq x j (by omega))
  obtain ⟨s2, b1, b2, b3⟩ := c_spreads (N := N) hN1 W Z hD hnow h.1 (Or.inl rfl) hw hP1 hs1 a2 a4
  have h8 : s2.1 394 8 = nI D := (b3.1 _ _ (by omega)).trans a2.2.2.1
  have b2' : CTab s2 w mv (TT P st K D n mv w) := by
    unfold TT
    rw [anN_dis (by omega) hd]
    exact b2
  refine ⟨s2, ?_, Fr_m (Fr_t a5 (Fr_m b3 (fun x j q => by unfold seD; omega))) (fun x j => seD_cQ)⟩
  have e1 : nI w &&& (((1 : Int32) <<< (nI n &&& 31) - 1) ^^^ (-1 : Int32)) = 0 := by
    rw [all_i hn8, anN_i (show w < 256 by omega), (anN_0 (show w < 256 by omega)).mpr]
    · rfl
    · intro j hj q
      rw [Nat.testBit_two_pow_sub_one]
      apply decide_eq_true
      apply Nat.lt_of_not_le
      intro c
      have := Nat.testBit_lt_two_pow (Nat.lt_of_lt_of_le hw (Nat.pow_le_pow_right (by omega) c))
      rw [q] at this
      cases this
  have e2 : s.1 38 2 = nI (hN st) := h.2.2.2.2.2.1.trans h2
  unfold fX11_soonest bX11_soonest_0
  simp (decide := true) only [ob_s, cS_l, cS_r, gI_k, gR_k, pI_k, pR_k, cV_k, aI_k, tI_k, rZ_0, rZ_1, rZ_i, aR_24, aR_25, aZ_k, tZ_k, rf_3_6, rf_3_7, rf_3_8, rf_5_0, rf_5_1, rf_5_3, rf_5_4, rf_5_5, rf_5_7, rf_6_4, rf_6_11, rf_1_0, rf_1_1, rf_0_6, rf_9_7, rf_9_8, rf_8_0, rf_11_0, rf_11_5, rf_11_6, rf_11_7, rf_11_9, rf_11_10, rf_11_11, rf_11_12, rf_11_3, rf_11_4, Nat.reduceAdd, Nat.zero_add, kc_0, kc_1, kc_34, kc_35, kc_36, kc_37, kc_38, kc_39, kc_40, kc_41, kc_42, kc_43, kc_44, kc_45, kc_46, kc_207, kc_208, kc_209, kc_210, kc_211, kc_212, kc_213, kc_214, kc_215, kc_216, kc_377, kc_378, kc_379, kc_380, kc_381, kc_382, kc_383, kc_384, kc_385, kc_386, kc_387, kc_388, kc_389, kc_390, kc_391, kc_392, kc_393, kc_394, kc_395, kc_414, kc_415, kc_416, kc_417, kc_418, kn_1, kn_36, kn_39, kn_41, kn_42, kn_43, kn_44, kn_45, kn_46, kn_209, kn_211, kn_212, kn_213, kn_214, kn_215, kn_216, kn_378, kn_380, kn_382, kn_383, kn_385, kn_386, kn_388, kn_390, kn_392, kn_393, kn_395, kn_414, kn_415, kn_417, kn_418, h.2.1, hpO.1, h.2.2.1.2.2.1, e1, e2, and_nI, hd, nI0, h.2.2.1.1, a1, b1, c_endOf (show w < 256 by omega) hD h8 hmv b2' (TT_TE (K := K) W hD Z hnow w)]
  rfl
theorem c_soonest' {x : Int32} (W : Wp P n D mv) (Z : Ws st n D) (h : CQ s p P n D mv st K) (hx : ¬ ∃ w, w < 2 ^ n ∧ x = nI w ∧ w &&& hN st = 0) : fX11_soonest N 0 x (mk s) = some (.inr 0, mk s) := by
  have hpO := plA_O h.1
  have hn8 := W.1
  have hpos := Nat.two_pow_pos n
  have hp8 := pn8 hn8
  obtain ⟨_, _, ⟨h2, h2'⟩⟩ := Ws_n Z W.1 W.2.2.2.1
  have e2 : s.1 38 2 = nI (hN st) := h.2.2.2.2.2.1.trans h2
  unfold fX11_soonest bX11_soonest_0
  simp (decide := true) only [ob_s, cS_l, cS_r, gI_k, gR_k, pI_k, pR_k, cV_k, aI_k, tI_k, rZ_0, rZ_1, rZ_i, aR_24, aR_25, aZ_k, tZ_k, rf_3_6, rf_3_7, rf_3_8, rf_5_0, rf_5_1, rf_5_3, rf_5_4, rf_5_5, rf_5_7, rf_6_4, rf_6_11, rf_1_0, rf_1_1, rf_0_6, rf_9_7, rf_9_8, rf_8_0, rf_11_0, rf_11_5, rf_11_6, rf_11_7, rf_11_9, rf_11_10, rf_11_11, rf_11_12, rf_11_3, rf_11_4, Nat.reduceAdd, Nat.zero_add, kc_0, kc_1, kc_34, kc_35, kc_36, kc_37, kc_38, kc_39, kc_40, kc_41, kc_42, kc_43, kc_44, kc_45, kc_46, kc_207, kc_208, kc_209, kc_210, kc_211, kc_212, kc_213, kc_214, kc_215, kc_216, kc_377, kc_378, kc_379, kc_380, kc_381, kc_382, kc_383, kc_384, kc_385, kc_386, kc_387, kc_388, kc_389, kc_390, kc_391, kc_392, kc_393, kc_394, kc_395, kc_414, kc_415, kc_416, kc_417, kc_418, kn_1, kn_36, kn_39, kn_41, kn_42, kn_43, kn_44, kn_45, kn_46, kn_209, kn_211, kn_212, kn_213, kn_214, kn_215, kn_216, kn_378, kn_380, kn_382, kn_383, kn_385, kn_386, kn_388, kn_390, kn_392, kn_393, kn_395, kn_414, kn_415, kn_417, kn_418, h.2.1, hpO.1, h.2.2.1.2.2.1, e2]
  by_cases c1 : x &&& (((1 : Int32) <<< (nI n &&& 31) - 1) ^^^ (-1 : Int32)) = 0
  · rw [if_neg (fun q => q c1)]
    rw [all_i hn8] at c1
    obtain ⟨w, hw, rfl⟩ : ∃ w, w < 2 ^ n ∧ x = nI w := by
      have hb : ∀ i, i < 32 → n ≤ i → bt x i = false := fun i hi hni => by
        have := congrArg (fun y => bt y i) c1
        simp only [b_and, b_xor, bt_nI _ _ hi, b_m1 i hi, b_0, Nat.testBit_two_pow_sub_one] at this
        simpa [show ¬ i < n by omega] using this
      obtain ⟨w, hw⟩ : ∃ w, x = nI w := ⟨x.toBitVec.toNat, by
        show x = Int32.ofNat x.toBitVec.toNat
        apply Int32.toBitVec_inj.mp
        rw [Int32.toBitVec_ofNat']
        simp⟩
      refine ⟨w % 2 ^ n, Nat.mod_lt _ hpos, ?_⟩
      refine b_ext fun i hi => ?_
      rw [bt_nI _ _ hi, Nat.testBit_mod_two_pow]
      by_cases c : i < n
      · rw [hw, bt_nI _ _ hi]; simp [c]
      · rw [hb i hi (by omega)]; simp [c]
    have c2 : ¬ nI w &&& nI (hN st) = 0 := fun q => hx ⟨w, hw, rfl, by
      rw [and_nI] at q
      have hle : w &&& hN st ≤ w := Nat.and_le_left
      exact (nI_eq (b := 0) (by omega) (by omega)).mp q⟩
    rw [if_neg c2]
    rfl
  · rw [if_pos c1]; rfl
theorem TT_cls (W : Wp P n D mv) (Z : Ws st n D) (hE : E ≤ 480) (hnow : nowN st ≤ E) {S : Nat} (hS : S < 256) (hsn : sn (TT P st K E n mv w) S < 100000) : Cls P (hN st) (anN w (hN st)) 0 S := by
  intro k hk hb
  have hT := TT_tab (K := K) W hE Z hnow w
  have hq : ∃ q, q ≤ 1 ∧ TT P st K E n mv w (2 * S + q) ≠ 100000 := by
    unfold sn at hsn
    by_cases c : TT P st K E n mv w (2 * S) = 100000
    · exact ⟨1, by omega, by omega⟩
    · exact ⟨0, by omega, by simpa using c⟩
  obtain ⟨q, hq1, hq2⟩ := hq
  exact (tab_cl (bhk_okB (st := st) (K := K) W hE _ _ _) hT S q hq1 hq2 hS k hk hb).2
theorem MS_sn {T : Nat → Nat} (h0 : sn T 0 < 100000) : ∀ f i b, sn T b < 100000 → sn T (mst T f i b) < 100000
  | 0, _, _, h => h
  | f + 1, i, b, h => by
    rw [mst_s]
    refine MS_sn h0 f (i + 1) _ ?_
    split
    · rename_i g; exact g.1
    · exact h
/-- the order of the most: a path -/
theorem MS_path (W : Wp P n D mv) (Z : Ws st n D) (hD : D ≤ 480) {T : Nat → Nat} (hT : T = TT P st K D n mv (2 ^ n - 1)) : ∃ l, dfr n mv (sn T (MS n T)) (bhk P st K D) (pls P) (frC P) (MS n T) (inN st) (nowN st) = some l ∧ l.length = pcf (MS n T) := by
  subst hT
  obtain ⟨⟨h0, hnow⟩, ⟨h1, h1'⟩, ⟨h2, h2'⟩⟩ := Ws_n Z W.1 W.2.2.2.1
  have hn8 := W.1
  have hp8 := pn8 hn8
  have htab := TT_tab (K := K) W hD Z hnow (2 ^ n - 1)
  have hS := MS_lt n (TT P st K D n mv (2 ^ n - 1))
  have hs0 : sn (TT P st K D n mv (2 ^ n - 1)) 0 < 100000 := by rw [TT_0 W hD Z hnow]; omega
  have hsn : sn (TT P st K D n mv (2 ^ n - 1)) (MS n (TT P st K D n mv (2 ^ n - 1))) < 100000 := MS_sn hs0 _ _ _ hs0
  have hC := TT_cls (K := K) W Z hD hnow (show MS n (TT P st K D n mv (2 ^ n - 1)) < 256 by omega) hsn
  have hOB := bhk_okB (st := st) (K := K) W hD (hN st) (anN (2 ^ n - 1) (hN st)) 0
  generalize hTe : TT P st K D n mv (2 ^ n - 1) = T at *
  generalize hSe : MS n T = S at *
  have hle : sn T S ≤ D := by
    have t0 := htab.2.2.2.2 (2 * S)
    have t1 := htab.2.2.2.2 (2 * S + 1)
    unfold sn at hsn ⊢
    omega
  obtain ⟨q, hq, hqe⟩ : ∃ q, q ≤ 1 ∧ T (2 * S + q) = sn T S := by
    unfold sn
    by_cases c : T (2 * S) ≤ T (2 * S + 1)
    · exact ⟨0, by omega, by rw [Nat.min_eq_left c]; rfl⟩
    · exact ⟨1, by omega, by rw [Nat.min_eq_right (by omega)]⟩
  have hSH : ∀ j, j < 8 → S.testBit j = true → (hN st ||| 0).testBit j = false := fun j hj g => by
    have := (hC j hj g).1
    rw [anN_tb (by omega)] at this
    simp only [Bool.and_eq_true, Bool.not_eq_true'] at this
    rw [Nat.or_zero]
    exact this.2
  have hpath : (dfr n mv (sn T S) (bhk P st K D) (pls P) (frC P) S (inN st) (nowN st)).isSome = true := by
    refine tab_path hOB htab h1' hle (fun had rest k hk hd hr ho => ?_) S 0 q ⟨by omega, by omega, by omega, fun j hj => by simp⟩ hq (by rw [hqe]; omega) ?_
    · rw [← frC_op W hC hd hk hr hSH]; exact ho
    · rw [hqe, dfr_0, if_pos (Nat.le_refl _)]; rfl
  obtain ⟨l, hl⟩ := Option.isSome_iff_exists.mp hpath
  refine ⟨l, hl, ?_⟩
  have len : ∀ (c rest p t : Nat) (l : List Nat), pcf rest ≤ c → rest < 256 → dfr n mv (sn T S) (bhk P st K D) (pls P) (frC P) rest p t = some l → l.length = pcf rest := by
    intro c
    induction c with
    | zero =>
      intro rest p t l hc hr hd
      have e := pcf_z rest hr (by omega)
      subst e
      rw [dfr_0] at hd
      by_cases c : t ≤ sn T S
      · rw [if_pos c] at hd; rw [← Option.some.inj hd]; rfl
      · rw [if_neg c] at hd; cases hd
    | succ c ih =>
      intro rest p t l hc hr hd
      by_cases e : rest = 0
      · subst e
        rw [dfr_0] at hd
        by_cases c : t ≤ sn T S
        · rw [if_pos c] at hd; rw [← Option.some.inj hd]; rfl
        · rw [if_neg c] at hd; cases hd
      · obtain ⟨k, l', hk, hl, g1, g2, g3, g4, g5⟩ := dfr_hd hn8 hr e hd
        have hrem := pcf_rem rest hr k (by omega) g1
        have := ih (rest - 2 ^ k) _ _ l' (by omega) (s256 hr _) g4
        rw [hl, List.length_cons]
        omega
  exact len 8 S _ _ l (pcf_8 S) (by omega) hl
theorem c_ordersMost (hN1 : 1000 ≤ N) (W : Wp P n D mv) (Z : Ws st n D) (hD : D ≤ 480) (hp : plA p) (ha : stA a) (hP : CPl s p P n D mv) (hs : SAt s a st K) {T : Nat → Nat} (hTe : T = TT P st K D n mv (2 ^ n - 1)) (hF : FM s p a D n mv w P st K T) {l : List Nat} (hl : dfr n mv (sn T (MS n T)) (bhk P st K D) (pls P) (frC P) (MS n T) (inN st) (nowN st) = some l) (hlen : l.length = pcf (MS n T)) : ∃ s', fX6_ordersMost N 394 (mk s) = some (.inl (), mk s') ∧ (∀ j, j < l.length → s'.1 395 j = nI (l.getD j 0)) ∧ Fr (fun x _ => x = 395 ∨ x = 415 ∨ (406 ≤ x ∧ x ≤ 413)) s s' := by
  obtain ⟨⟨h0, hnow⟩, ⟨h1, h1'⟩, ⟨h2, h2'⟩⟩ := Ws_n Z W.1 W.2.2.2.1
  obtain ⟨f1, f2, f3, f4, f5⟩ := hF
  have hn8 := W.1
  have hp8 := pn8 hn8
  have hp2 := plA_le hp
  have ha2 := stA_le ha
  have hS := MS_lt n T
  have hTE : ∀ j, T j ≤ D ∨ T j = 100000 := by subst hTe; exact TT_TE (K := K) W hD Z hnow _
  have hs0 : sn T 0 < 100000 := by subst hTe; rw [TT_0 W hD Z hnow]; omega
  have hsn : sn T (MS n T) < 100000 := MS_sn hs0 _ _ _ hs0
  have hle : sn T (MS n T) ≤ D := by
    have t0 := hTE (2 * MS n T)
    have t1 := hTE (2 * MS n T + 1)
    unfold sn at hsn ⊢
    omega
  obtain ⟨s1, o, a1, a2, a3, a4, a5⟩ := c_latestFor (N := N) (goal := sn T (MS n T)) (all := MS n T) (q0 := inN st) hN1 W hD hle hp ha Z.2.2.2 (by omega) h1' hP hs f3
  have hself : anN (MS n T) (MS n T) = 0 := (anN_0 (by omega)).mpr (fun j _ h => h)
  have hpc := pcf_8 (MS n T)
  have hP1 := CPl_fr hP hn8 a5 (by intros; omega)
  have hS1 := SvP_fr f3 a5 (by intros; omega) (by intros; omega)
  obtain ⟨s2, b1, b2, b3, b4⟩ := c_ord44 (N := N) (all := MS n T) (cnt := pcf (MS n T)) hN1 W hD hle hp hpc l N (MS n T) (inN st) (nowN st) 0 s1 (by omega) (by omega) hself h1' (by omega) (by omega) hl ((a5.1 _ _ (by omega)).trans f1.1) hP1 hS1 (fun k hk m hm => by rw [a5.1 _ _ (by omega)]; exact f4 k hk m hm) a4 (by
    constructor
    · intro e
      rw [e] at hlen
      exact List.eq_nil_of_length_eq_zero hlen
    · intro e
      rw [e] at hlen
      exact pcf_z _ (by omega) hlen.symm) hlen.symm
  refine ⟨s2, ?_, fun j hj => by have := b2 j hj; rwa [Nat.zero_add] at this, Fr_t (Fr_m a5 (by intros; omega)) (Fr_m b4 (by intros; omega))⟩
  have e0 : ∀ s', Fr (fun x _ => x = 415 ∨ (406 ≤ x ∧ x ≤ 413)) s s' → s'.1 a 0 = nI (nowN st) := fun s' f => (f.1 _ _ (by omega)).trans (hs.1.trans h0)
  have e1 : ∀ s', Fr (fun x _ => x = 415 ∨ (406 ≤ x ∧ x ≤ 413)) s s' → s'.1 a 1 = nI (inN st) := fun s' f => (f.1 _ _ (by omega)).trans (hs.2.1.trans h1)
  have e3 : s1.1 394 3 = nI (MS n T) := (a5.1 _ _ (by omega)).trans f1.2.2
  unfold fX6_ordersMost bX6_ordersMost_0
  simp (decide := true) only [ob_s, cS_l, cS_r, gI_k, gR_k, pI_k, pR_k, cV_k, aI_k, tI_k, rZ_0, rZ_1, rZ_i, aR_24, aR_27, rf_3_6, rf_6_4, rf_6_9, rf_6_10, rf_6_11, rf_6_12, rf_6_5, rf_6_6, rf_6_7, Nat.reduceAdd, kc_394, kc_395, kc_396, kc_397, kc_398, kc_399, kc_400, kc_401, kc_402, kc_403, kc_404, kc_405, kc_406, kc_407, kc_408, kc_409, kc_410, kc_411, kc_412, kc_413, kc_414, kc_415, kc_416, kc_417, kc_418, kn_395, kn_396, kn_397, kn_398, kn_399, kn_400, kn_401, kn_402, kn_403, kn_404, kn_405, kn_406, kn_407, kn_408, kn_409, kn_410, kn_411, kn_412, kn_413, kn_414, kn_415, kn_417, kn_418, f1.2.2, f3.2.1, (stA_O ha).1, e1 s (Fr_r _ _), f1.2.1, a1, e3, hS1.2.1, e1 s1 a5, e0 s1 a5]
  exact b1
/-- the order of the most, a shot -/
def aOrd (P : pln) (st : Nat → Int32) (K : Nat → Bool) (n D mv : Nat) : List Nat := (dfr n mv (sn (TT P st K D n mv (2 ^ n - 1)) (MS n (TT P st K D n mv (2 ^ n - 1)))) (bhk P st K D) (pls P) (frC P) (MS n (TT P st K D n mv (2 ^ n - 1))) (inN st) (nowN st)).getD []
theorem aOrd_len (W : Wp P n D mv) (Z : Ws st n D) : (aOrd P st K n D mv).length = pcf (MS n (TT P st K D n mv (2 ^ n - 1))) := by
  obtain ⟨l, hl, hlen⟩ := MS_path (K := K) W Z W.2.2.2.1 rfl
  unfold aOrd
  rw [hl]
  exact hlen
theorem c_order (hN1 : 1000 ≤ N) (W : Wp P n D mv) (Z : Ws st n D) (h : CQ s p P n D mv st K) (hw : w < (aOrd P st K n D mv).length) : ∃ s', fX11_order N 0 (nI w) (mk s) = some (.inl (nI ((aOrd P st K n D mv).getD w 0)), mk s') ∧ Fr cQ s s' := by
  have hpO := plA_O h.1
  have hp2 := plA_le h.1
  have hn8 := W.1
  have hD := W.2.2.2.1
  have hnow := (Ws_n Z W.1 W.2.2.2.1).1.2
  have nq : ∀ x j, x < 394 → ¬ seD x j := fun x j h q => by unfold seD at q; omega
  obtain ⟨l, hl, hlen⟩ := MS_path (K := K) W Z hD rfl
  have hao : aOrd P st K n D mv = l := by unfold aOrd; rw [hl]; rfl
  rw [hao] at hw ⊢
  have hpc := pcf_8 (MS n (TT P st K D n mv (2 ^ n - 1)))
  obtain ⟨s1, a1, a2, a3⟩ := c_findMost (N := N) (a := 38) hN1 W Z hD hnow h.1 h.2.1 (Or.inl rfl) h.2.2.1 h.2.2.2
  have hP1 := CPl_fr h.2.2.1 hn8 a3 (fun x j h1 h2 _ => nq x j (by omega))
  have hs1 := SAt_fr h.2.2.2 a3 (fun x j h1 h2 => nq x j (by omega))
  obtain ⟨s2, b1, b2, b3⟩ := c_ordersMost (N := N) hN1 W Z hD h.1 (Or.inl rfl) hP1 hs1 rfl a2 hl hlen
  have iw : inB (nI w) 8 = true := inA_nI (by omega) (by omega)
  refine ⟨s2, ?_, Fr_t (Fr_m a3 (fun x j => seD_cQ)) (Fr_m b3 (fun x j q => by unfold cQ; omega))⟩
  unfold fX11_order bX11_order_0
  simp (decide := true) only [ob_s, cS_l, cS_r, gI_k, gR_k, pI_k, pR_k, cV_k, aI_k, tI_k, rZ_0, rZ_1, rZ_i, aR_24, aR_25, aZ_k, tZ_k, rf_3_6, rf_3_7, rf_3_8, rf_5_0, rf_5_1, rf_5_3, rf_5_4, rf_5_5, rf_5_7, rf_6_4, rf_6_11, rf_1_0, rf_1_1, rf_0_6, rf_9_7, rf_9_8, rf_8_0, rf_11_0, rf_11_5, rf_11_6, rf_11_7, rf_11_9, rf_11_10, rf_11_11, rf_11_12, rf_11_3, rf_11_4, Nat.reduceAdd, Nat.zero_add, kc_0, kc_1, kc_34, kc_35, kc_36, kc_37, kc_38, kc_39, kc_40, kc_41, kc_42, kc_43, kc_44, kc_45, kc_46, kc_207, kc_208, kc_209, kc_210, kc_211, kc_212, kc_213, kc_214, kc_215, kc_216, kc_377, kc_378, kc_379, kc_380, kc_381, kc_382, kc_383, kc_384, kc_385, kc_386, kc_387, kc_388, kc_389, kc_390, kc_391, kc_392, kc_393, kc_394, kc_395, kc_414, kc_415, kc_416, kc_417, kc_418, kn_1, kn_36, kn_39, kn_41, kn_42, kn_43, kn_44, kn_45, kn_46, kn_209, kn_211, kn_212, kn_213, kn_214, kn_215, kn_216, kn_378, kn_380, kn_382, kn_383, kn_385, kn_386, kn_388, kn_390, kn_392, kn_393, kn_395, kn_414, kn_415, kn_417, kn_418, h.2.1, hpO.1, h.2.2.1.1, a1]
  rw [if_neg (nI_pos (by omega))]
  simp (decide := true) only [ob_s, cS_l, cS_r, gI_k, gR_k, pI_k, pR_k, cV_k, aI_k, tI_k, rZ_0, rZ_1, rZ_i, aR_24, aR_25, aZ_k, tZ_k, rf_3_6, rf_3_7, rf_3_8, rf_5_0, rf_5_1, rf_5_3, rf_5_4, rf_5_5, rf_5_7, rf_6_4, rf_6_11, rf_1_0, rf_1_1, rf_0_6, rf_9_7, rf_9_8, rf_8_0, rf_11_0, rf_11_5, rf_11_6, rf_11_7, rf_11_9, rf_11_10, rf_11_11, rf_11_12, rf_11_3, rf_11_4, Nat.reduceAdd, Nat.zero_add, kc_0, kc_1, kc_34, kc_35, kc_36, kc_37, kc_38, kc_39, kc_40, kc_41, kc_42, kc_43, kc_44, kc_45, kc_46, kc_207, kc_208, kc_209, kc_210, kc_211, kc_212, kc_213, kc_214, kc_215, kc_216, kc_377, kc_378, kc_379, kc_380, kc_381, kc_382, kc_383, kc_384, kc_385, kc_386, kc_387, kc_388, kc_389, kc_390, kc_391, kc_392, kc_393, kc_394, kc_395, kc_414, kc_415, kc_416, kc_417, kc_418, kn_1, kn_36, kn_39, kn_41, kn_42, kn_43, kn_44, kn_45, kn_46, kn_209, kn_211, kn_212, kn_213, kn_214, kn_215, kn_216, kn_378, kn_380, kn_382, kn_383, kn_385, kn_386, kn_388, kn_390, kn_392, kn_393, kn_395, kn_414, kn_415, kn_417, kn_418, a2.1.1]
  rw [if_pos (nI_lt (by omega) (by omega))]
  simp (decide := true) only [ob_s, cS_l, cS_r, gI_k, gR_k, pI_k, pR_k, cV_k, aI_k, tI_k, rZ_0, rZ_1, rZ_i, aR_24, aR_25, aZ_k, tZ_k, rf_3_6, rf_3_7, rf_3_8, rf_5_0, rf_5_1, rf_5_3, rf_5_4, rf_5_5, rf_5_7, rf_6_4, rf_6_11, rf_1_0, rf_1_1, rf_0_6, rf_9_7, rf_9_8, rf_8_0, rf_11_0, rf_11_5, rf_11_6, rf_11_7, rf_11_9, rf_11_10, rf_11_11, rf_11_12, rf_11_3, rf_11_4, Nat.reduceAdd, Nat.zero_add, kc_0, kc_1, kc_34, kc_35, kc_36, kc_37, kc_38, kc_39, kc_40, kc_41, kc_42, kc_43, kc_44, kc_45, kc_46, kc_207, kc_208, kc_209, kc_210, kc_211, kc_212, kc_213, kc_214, kc_215, kc_216, kc_377, kc_378, kc_379, kc_380, kc_381, kc_382, kc_383, kc_384, kc_385, kc_386, kc_387, kc_388, kc_389, kc_390, kc_391, kc_392, kc_393, kc_394, kc_395, kc_414, kc_415, kc_416, kc_417, kc_418, kn_1, kn_36, kn_39, kn_41, kn_42, kn_43, kn_44, kn_45, kn_46, kn_209, kn_211, kn_212, kn_213, kn_214, kn_215, kn_216, kn_378, kn_380, kn_382, kn_383, kn_385, kn_386, kn_388, kn_390, kn_392, kn_393, kn_395, kn_414, kn_415, kn_417, kn_418, b1, iw, nI_clamp (show w < 2 ^ 31 by omega), b2 w hw]
theorem c_order' {x : Int32} (hN1 : 1000 ≤ N) (W : Wp P n D mv) (Z : Ws st n D) (h : CQ s p P n D mv st K) (hx : x < 0 ∨ (¬ x < 0 ∧ nI (aOrd P st K n D mv).length ≤ x)) : ∃ s', fX11_order N 0 x (mk s) = some (.inr 1, mk s') ∧ Fr cQ s s' := by
  have hpO := plA_O h.1
  have hD := W.2.2.2.1
  have hnow := (Ws_n Z W.1 W.2.2.2.1).1.2
  rw [aOrd_len W Z] at hx
  obtain ⟨s1, a1, a2, a3⟩ := c_findMost (N := N) (a := 38) hN1 W Z hD hnow h.1 h.2.1 (Or.inl rfl) h.2.2.1 h.2.2.2
  refine ⟨s1, ?_, Fr_m a3 (fun x j => seD_cQ)⟩
  unfold fX11_order bX11_order_0
  simp (decide := true) only [ob_s, cS_l, cS_r, gI_k, gR_k, pI_k, pR_k, cV_k, aI_k, tI_k, rZ_0, rZ_1, rZ_i, aR_24, aR_25, aZ_k, tZ_k, rf_3_6, rf_3_7, rf_3_8, rf_5_0, rf_5_1, rf_5_3, rf_5_4, rf_5_5, rf_5_7, rf_6_4, rf_6_11, rf_1_0, rf_1_1, rf_0_6, rf_9_7, rf_9_8, rf_8_0, rf_11_0, rf_11_5, rf_11_6, rf_11_7, rf_11_9, rf_11_10, rf_11_11, rf_11_12, rf_11_3, rf_11_4, Nat.reduceAdd, Nat.zero_add, kc_0, kc_1, kc_34, kc_35, kc_36, kc_37, kc_38, kc_39, kc_40, kc_41, kc_42, kc_43, kc_44, kc_45, kc_46, kc_207, kc_208, kc_209, kc_210, kc_211, kc_212, kc_213, kc_214, kc_215, kc_216, kc_377, kc_378, kc_379, kc_380, kc_381, kc_382, kc_383, kc_384, kc_385, kc_386, kc_387, kc_388, kc_389, kc_390, kc_391, kc_392, kc_393, kc_394, kc_395, kc_414, kc_415, kc_416, kc_417, kc_418, kn_1, kn_36, kn_39, kn_41, kn_42, kn_43, kn_44, kn_45, kn_46, kn_209, kn_211, kn_212, kn_213, kn_214, kn_215, kn_216, kn_378, kn_380, kn_382, kn_383, kn_385, kn_386, kn_388, kn_390, kn_392, kn_393, kn_395, kn_414, kn_415, kn_417, kn_418, h.2.1, hpO.1, h.2.2.1.1, a1]
  rcases hx with hx | hx
  · rw [if_pos hx]; rfl
  · rw [if_neg hx.1]
    simp (decide := true) only [ob_s, cS_l, cS_r, gI_k, gR_k, pI_k, pR_k, cV_k, aI_k, tI_k, rZ_0, rZ_1, rZ_i, aR_24, aR_25, aZ_k, tZ_k, rf_3_6, rf_3_7, rf_3_8, rf_5_0, rf_5_1, rf_5_3, rf_5_4, rf_5_5, rf_5_7, rf_6_4, rf_6_11, rf_1_0, rf_1_1, rf_0_6, rf_9_7, rf_9_8, rf_8_0, rf_11_0, rf_11_5, rf_11_6, rf_11_7, rf_11_9, rf_11_10, rf_11_11, rf_11_12, rf_11_3, rf_11_4, Nat.reduceAdd, Nat.zero_add, kc_0, kc_1, kc_34, kc_35, kc_36, kc_37, kc_38, kc_39, kc_40, kc_41, kc_42, kc_43, kc_44, kc_45, kc_46, kc_207, kc_208, kc_209, kc_210, kc_211, kc_212, kc_213, kc_214, kc_215, kc_216, kc_377, kc_378, kc_379, kc_380, kc_381, kc_382, kc_383, kc_384, kc_385, kc_386, kc_387, kc_388, kc_389, kc_390, kc_391, kc_392, kc_393, kc_394, kc_395, kc_414, kc_415, kc_416, kc_417, kc_418, kn_1, kn_36, kn_39, kn_41, kn_42, kn_43, kn_44, kn_45, kn_46, kn_209, kn_211, kn_212, kn_213, kn_214, kn_215, kn_216, kn_378, kn_380, kn_382, kn_383, kn_385, kn_386, kn_388, kn_390, kn_392, kn_393, kn_395, kn_414, kn_415, kn_417, kn_418, a2.1.1]
    rw [if_neg (fun q => by rw [i32_lt] at q; have := hx.2; rw [i32_le] at this; omega)]
    rfl
/-- inside shots that are not had -/
def wIn (P : pln) : Nat → Nat
  | 0 => 0
  | k + 1 => wIn P k ||| (if P 1 k = 2 then 2 ^ k else 0)
theorem wIn_tb (P : pln) : ∀ n j, (wIn P n).testBit j = (decide (j < n) && decide (P 1 j = 2))
  | 0, j => by simp [wIn]
  | n + 1, j => by
    show (wIn P n ||| (if P 1 n = 2 then 2 ^ n else 0)).testBit j = _
    rw [Nat.testBit_or, wIn_tb P n j]
    by_cases e : j = n
    · subst e
      by_cases c : P 1 j = 2
      · simp [c, Nat.testBit_two_pow]
      · simp [c]
    · by_cases c : P 1 n = 2
      · rw [if_pos c, Nat.testBit_two_pow]
        by_cases g : j < n
        · simp [g, show j < n + 1 by omega, Ne.symm e]
        · simp [g, show ¬ j < n + 1 by omega, Ne.symm e]
      · rw [if_neg c]
        by_cases g : j < n
        · simp [g, show j < n + 1 by omega]
        · simp [g, show ¬ j < n + 1 by omega]
theorem wIn_lt (P : pln) (n : Nat) : wIn P n < 2 ^ n := by
  apply Nat.lt_pow_two_of_testBit
  intro j hj
  rw [wIn_tb]
  simp [show ¬ j < n by omega]
theorem c_shotsAt4 (hp : plA p) (hn8 : n ≤ 8) (hP : CPl s p P n D mv) (hok : ∀ k, k < n → okS P k) : ∀ (f i : Nat), n - i < f → i ≤ n → lX3_shotsAt_4 N f p 1 (nI (wIn P i)) (nI i) (mk s) = some (.inl (nI (wIn P n)), mk s) := by
  have hpO := plA_O hp
  intro f
  induction f with
  | zero => intro i hf; omega
  | succ f ih =>
    intro i hf hi
    show bX3_shotsAt_4 N (lX3_shotsAt_4 N f) p 1 (nI (wIn P i)) (nI i) (mk s) = _
    unfold bX3_shotsAt_4 bX3_shotsAt_37
    simp (decide := true) only [ob_s, cS_l, cS_r, gI_k, gR_k, pI_k, pR_k, cV_k, aI_k, tI_k, rZ_0, rZ_1, rZ_i, aR_24, aR_25, aZ_k, tZ_k, rf_3_6, rf_3_7, rf_3_8, rf_5_0, rf_5_1, rf_5_3, rf_5_4, rf_5_5, rf_5_7, rf_6_4, rf_6_11, rf_1_0, rf_1_1, rf_0_6, rf_9_7, rf_9_8, rf_8_0, rf_11_0, rf_11_5, rf_11_6, rf_11_7, rf_11_9, rf_11_10, rf_11_11, rf_11_12, rf_11_3, rf_11_4, Nat.reduceAdd, Nat.zero_add, kc_0, kc_1, kc_34, kc_35, kc_36, kc_37, kc_38, kc_39, kc_40, kc_41, kc_42, kc_43, kc_44, kc_45, kc_46, kc_207, kc_208, kc_209, kc_210, kc_211, kc_212, kc_213, kc_214, kc_215, kc_216, kc_377, kc_378, kc_379, kc_380, kc_381, kc_382, kc_383, kc_384, kc_385, kc_386, kc_387, kc_388, kc_389, kc_390, kc_391, kc_392, kc_393, kc_394, kc_395, kc_414, kc_415, kc_416, kc_417, kc_418, kn_1, kn_36, kn_39, kn_41, kn_42, kn_43, kn_44, kn_45, kn_46, kn_209, kn_211, kn_212, kn_213, kn_214, kn_215, kn_216, kn_378, kn_380, kn_382, kn_383, kn_385, kn_386, kn_388, kn_390, kn_392, kn_393, kn_395, kn_414, kn_415, kn_417, kn_418, hpO.1, hP.2.2.1]
    by_cases c : n ≤ i
    · rw [if_pos (nI_le c (by omega)), show i = n by omega]
    · rw [if_neg (nI_ge (by omega) (by omega))]
      have hq := hpO.2.2.2.1 i (by omega)
      have i1 : inB (nI i) 8 = true := inA_nI (by omega) (by omega)
      simp (decide := true) only [ob_s, cS_l, cS_r, gI_k, gR_k, pI_k, pR_k, cV_k, aI_k, tI_k, rZ_0, rZ_1, rZ_i, aR_24, aR_25, aZ_k, tZ_k, rf_3_6, rf_3_7, rf_3_8, rf_5_0, rf_5_1, rf_5_3, rf_5_4, rf_5_5, rf_5_7, rf_6_4, rf_6_11, rf_1_0, rf_1_1, rf_0_6, rf_9_7, rf_9_8, rf_8_0, rf_11_0, rf_11_5, rf_11_6, rf_11_7, rf_11_9, rf_11_10, rf_11_11, rf_11_12, rf_11_3, rf_11_4, Nat.reduceAdd, Nat.zero_add, kc_0, kc_1, kc_34, kc_35, kc_36, kc_37, kc_38, kc_39, kc_40, kc_41, kc_42, kc_43, kc_44, kc_45, kc_46, kc_207, kc_208, kc_209, kc_210, kc_211, kc_212, kc_213, kc_214, kc_215, kc_216, kc_377, kc_378, kc_379, kc_380, kc_381, kc_382, kc_383, kc_384, kc_385, kc_386, kc_387, kc_388, kc_389, kc_390, kc_391, kc_392, kc_393, kc_394, kc_395, kc_414, kc_415, kc_416, kc_417, kc_418, kn_1, kn_36, kn_39, kn_41, kn_42, kn_43, kn_44, kn_45, kn_46, kn_209, kn_211, kn_212, kn_213, kn_214, kn_215, kn_216, kn_378, kn_380, kn_382, kn_383, kn_385, kn_386, kn_388, kn_390, kn_392, kn_393, kn_395, kn_414, kn_415, kn_417, kn_418, hpO.2.1, hpO.2.2.1, i1, nI_clamp (show i < 2 ^ 31 by omega), hq, c_place hq (hP.2.2.2 i (by omega))]
      unfold bX3_shotsAt_31
      rw [nI_1]
      by_cases c2 : P 1 i = 2
      · rw [if_neg (by simp [c2, sk_i]), or_bit _ _ (by omega)]
        have : wIn P i ||| 2 ^ i = wIn P (i + 1) := by show _ = wIn P i ||| (if P 1 i = 2 then 2 ^ i else 0); rw [if_pos c2]
        rw [this]
        exact ih (i + 1) (by omega) (by omega)
      · rw [if_pos (by simp [c2, sk_i])]
        have : wIn P i = wIn P (i + 1) := by show _ = wIn P i ||| (if P 1 i = 2 then 2 ^ i else 0); rw [if_neg c2, Nat.or_zero]
        rw [this]
        exact ih (i + 1) (by omega) (by omega)
/-- going inside -/
def aIns (P : pln) (st : Nat → Int32) (K : Nat → Bool) (n D mv : Nat) (x : Int32) : Prop :=
  (inN st = 1 ∧ x = -1) ∨ (inN st = 0 ∧ anN (wIn P n) (hN st) = 0 ∧ x = -1) ∨ (inN st = 0 ∧ anN (wIn P n) (hN st) ≠ 0 ∧ ((∃ m, nowN st ≤ m ∧ m + mv ≤ D ∧ x = nI m ∧ (dfr n mv D (bhk P st K D) (pls P) (frC P) (anN (wIn P n) (hN st)) 1 (m + mv)).isSome = true ∧ ∀ m', m < m' → (dfr n mv D (bhk P st K D) (pls P) (frC P) (anN (wIn P n) (hN st)) 1 (m' + mv)).isSome = false) ∨ (x = -1 ∧ ∀ m, nowN st ≤ m → (dfr n mv D (bhk P st K D) (pls P) (frC P) (anN (wIn P n) (hN st)) 1 (m + mv)).isSome = false)))
theorem aIns_fun {x y : Int32} (hx : aIns P st K n D mv x) (hy : aIns P st K n D mv y) : x = y := by
  rcases hx with ⟨a1, a2⟩ | ⟨a1, a2, a3⟩ | ⟨a1, a2, a3⟩
  · rcases hy with ⟨b1, b2⟩ | ⟨b1, b2, b3⟩ | ⟨b1, b2, b3⟩
    · rw [a2, b2]
    · omega
    · omega
  · rcases hy with ⟨b1, b2⟩ | ⟨b1, b2, b3⟩ | ⟨b1, b2, b3⟩
    · omega
    · rw [a3, b3]
    · exact absurd a2 b2
  · rcases hy with ⟨b1, b2⟩ | ⟨b1, b2, b3⟩ | ⟨b1, b2, b3⟩
    · omega
    · exact absurd b2 a2
    · rcases a3 with ⟨m, c1, c2, c3, c4, c5⟩ | ⟨c1, c2⟩
      · rcases b3 with ⟨m', d1, d2, d3, d4, d5⟩ | ⟨d1, d2⟩
        · have : m = m' := by
            rcases Nat.lt_trichotomy m m' with g | g | g
            · have := c5 m' g; rw [d4] at this; cases this
            · exact g
            · have := d5 m g; rw [c4] at this; cases this
          rw [c3, d3, this]
        · have := d2 m c1; rw [c4] at this; cases this
      · rcases b3 with ⟨m', d1, d2, d3, d4, d5⟩ | ⟨d1, d2⟩
        · have := c2 m' d1; rw [d4] at this; cases this
        · rw [c1, d1]
theorem c_inside (hN1 : 1000 ≤ N) (W : Wp P n D mv) (Z : Ws st n D) (h : CQ s p P n D mv st K) : ∃ s' x, fX11_inside N 0 (mk s) = some (.inl x, mk s') ∧ aIns P st K n D mv x ∧ Fr cQ s s' := by
  have hpO := plA_O h.1
  have hp2 := plA_le h.1
  have hn8 := W.1
  have hD := W.2.2.2.1
  have hp8 := pn8 hn8
  have hmv := W.2.2.2.2.2.1
  obtain ⟨⟨h0, hnow⟩, ⟨h1, h1'⟩, ⟨h2, h2'⟩⟩ := Ws_n Z W.1 W.2.2.2.1
  have nq : ∀ x j, x < 394 → ¬ seD x j := fun x j h q => by unfold seD at q; omega
  have hsa : fX3_shotsAt N p 1 (mk s) = some (.inl (nI (wIn P n)), mk s) := c_shotsAt4 (N := N) h.1 hn8 h.2.2.1 (fun k hk => (W.2.2.2.2.2.2.2 k hk).1) N 0 (by omega) (by omega)
  have e2 : s.1 38 2 = nI (hN st) := h.2.2.2.2.2.1.trans h2
  have e1 : s.1 38 1 = nI (inN st) := h.2.2.2.2.1.trans h1
  have hwl := wIn_lt P n
  have hle := anN_le (wIn P n) (hN st)
  unfold fX11_inside bX11_inside_0
  simp (decide := true) only [ob_s, cS_l, cS_r, gI_k, gR_k, pI_k, pR_k, cV_k, aI_k, tI_k, rZ_0, rZ_1, rZ_i, aR_24, aR_25, aZ_k, tZ_k, rf_3_6, rf_3_7, rf_3_8, rf_5_0, rf_5_1, rf_5_3, rf_5_4, rf_5_5, rf_5_7, rf_6_4, rf_6_11, rf_1_0, rf_1_1, rf_0_6, rf_9_7, rf_9_8, rf_8_0, rf_11_0, rf_11_5, rf_11_6, rf_11_7, rf_11_9, rf_11_10, rf_11_11, rf_11_12, rf_11_3, rf_11_4, Nat.reduceAdd, Nat.zero_add, kc_0, kc_1, kc_34, kc_35, kc_36, kc_37, kc_38, kc_39, kc_40, kc_41, kc_42, kc_43, kc_44, kc_45, kc_46, kc_207, kc_208, kc_209, kc_210, kc_211, kc_212, kc_213, kc_214, kc_215, kc_216, kc_377, kc_378, kc_379, kc_380, kc_381, kc_382, kc_383, kc_384, kc_385, kc_386, kc_387, kc_388, kc_389, kc_390, kc_391, kc_392, kc_393, kc_394, kc_395, kc_414, kc_415, kc_416, kc_417, kc_418, kn_1, kn_36, kn_39, kn_41, kn_42, kn_43, kn_44, kn_45, kn_46, kn_209, kn_211, kn_212, kn_213, kn_214, kn_215, kn_216, kn_378, kn_380, kn_382, kn_383, kn_385, kn_386, kn_388, kn_390, kn_392, kn_393, kn_395, kn_414, kn_415, kn_417, kn_418, h.2.1, hpO.1, hsa, e1, e2, anN_i (show wIn P n < 256 by omega)]
  by_cases c1 : inN st = 1
  · rw [if_pos (by rw [c1]; rfl)]
    exact ⟨s, -1, rfl, Or.inl ⟨c1, rfl⟩, Fr_r _ _⟩
  · rw [if_neg (show ¬ nI (inN st) = 1 from fun q => c1 ((nI_eq (b := 1) (by omega) (by omega)).mp q))]
    by_cases c2 : anN (wIn P n) (hN st) = 0
    · rw [if_neg (fun q => q (by rw [c2]; rfl))]
      exact ⟨s, -1, rfl, Or.inr (Or.inl ⟨by omega, c2, rfl⟩), Fr_r _ _⟩
    · rw [if_pos (show ¬ nI (anN (wIn P n) (hN st)) = 0 from fun q => c2 ((nI_eq (b := 0) (by omega) (by omega)).mp q))]
      obtain ⟨s1, a1, a2, a3, a4, a5⟩ := c_prepares (N := N) (a := 38) hN1 W hD h.1 (Or.inl rfl) Z.2.2.2 h2 h.2.2.1 h.2.2.2
      have hP1 := CPl_fr h.2.2.1 hn8 a5 (fun x j h1 h2 _ => nq x j (by omega))
      have hs1 := SAt_fr h.2.2.2 a5 (fun x j h1 h2 => nq x j (by omega))
      have h31 : s1.2.1 0 3 = p := (a5.2.1 _ _ (nq _ _ (by omega))).trans h.2.1
      obtain ⟨s2, o, b1, b2, b3, b4, b5⟩ := c_latestFor (N := N) (goal := D) (all := anN (wIn P n) (hN st)) (q0 := 1) hN1 W hD (Nat.le_refl D) h.1 (Or.inl rfl) Z.2.2.2 (by omega) (by omega) hP1 hs1 a2
      rw [show nI 1 = (1 : Int32) from rfl] at b1
      have h32 : s2.2.1 0 3 = p := (b5.2.1 _ _ (by omega)).trans h31
      have hP2 := CPl_fr hP1 hn8 b5 (by intros; omega)
      have e0 : s2.1 38 0 = nI (nowN st) := (b5.1 _ _ (by omega)).trans (hs1.1.trans h0)
      have fr : Fr cQ s s2 := Fr_t (Fr_m a5 (fun x j => seD_cQ)) (Fr_m b5 (fun x j q => by unfold cQ; omega))
      simp (decide := true) only [ob_s, cS_l, cS_r, gI_k, gR_k, pI_k, pR_k, cV_k, aI_k, tI_k, rZ_0, rZ_1, rZ_i, aR_24, aR_25, aZ_k, tZ_k, rf_3_6, rf_3_7, rf_3_8, rf_5_0, rf_5_1, rf_5_3, rf_5_4, rf_5_5, rf_5_7, rf_6_4, rf_6_11, rf_1_0, rf_1_1, rf_0_6, rf_9_7, rf_9_8, rf_8_0, rf_11_0, rf_11_5, rf_11_6, rf_11_7, rf_11_9, rf_11_10, rf_11_11, rf_11_12, rf_11_3, rf_11_4, Nat.reduceAdd, Nat.zero_add, kc_0, kc_1, kc_34, kc_35, kc_36, kc_37, kc_38, kc_39, kc_40, kc_41, kc_42, kc_43, kc_44, kc_45, kc_46, kc_207, kc_208, kc_209, kc_210, kc_211, kc_212, kc_213, kc_214, kc_215, kc_216, kc_377, kc_378, kc_379, kc_380, kc_381, kc_382, kc_383, kc_384, kc_385, kc_386, kc_387, kc_388, kc_389, kc_390, kc_391, kc_392, kc_393, kc_394, kc_395, kc_414, kc_415, kc_416, kc_417, kc_418, kn_1, kn_36, kn_39, kn_41, kn_42, kn_43, kn_44, kn_45, kn_46, kn_209, kn_211, kn_212, kn_213, kn_214, kn_215, kn_216, kn_378, kn_380, kn_382, kn_383, kn_385, kn_386, kn_388, kn_390, kn_392, kn_393, kn_395, kn_414, kn_415, kn_417, kn_418, h.2.1, h.2.2.1.1, hpO.1, a1, h31, hP1.1, b1]
      cases o with
      | none =>
        refine ⟨s2, -1, by simp [lvI], Or.inr (Or.inr ⟨by omega, c2, Or.inr ⟨rfl, fun m hm => ?_⟩⟩), fr⟩
        cases g : (dfr n mv D (bhk P st K D) (pls P) (frC P) (anN (wIn P n) (hN st)) 1 (m + mv)).isSome
        · rfl
        · exact absurd ((b3 _).mp g) (thr_none _)
      | some v =>
        have hv := b2 v rfl
        rw [if_neg (show ¬ lvI (some v) = -1 from m1_ne (by omega))]
        simp (decide := true) only [ob_s, cS_l, cS_r, gI_k, gR_k, pI_k, pR_k, cV_k, aI_k, tI_k, rZ_0, rZ_1, rZ_i, aR_24, aR_25, aZ_k, tZ_k, rf_3_6, rf_3_7, rf_3_8, rf_5_0, rf_5_1, rf_5_3, rf_5_4, rf_5_5, rf_5_7, rf_6_4, rf_6_11, rf_1_0, rf_1_1, rf_0_6, rf_9_7, rf_9_8, rf_8_0, rf_11_0, rf_11_5, rf_11_6, rf_11_7, rf_11_9, rf_11_10, rf_11_11, rf_11_12, rf_11_3, rf_11_4, Nat.reduceAdd, Nat.zero_add, kc_0, kc_1, kc_34, kc_35, kc_36, kc_37, kc_38, kc_39, kc_40, kc_41, kc_42, kc_43, kc_44, kc_45, kc_46, kc_207, kc_208, kc_209, kc_210, kc_211, kc_212, kc_213, kc_214, kc_215, kc_216, kc_377, kc_378, kc_379, kc_380, kc_381, kc_382, kc_383, kc_384, kc_385, kc_386, kc_387, kc_388, kc_389, kc_390, kc_391, kc_392, kc_393, kc_394, kc_395, kc_414, kc_415, kc_416, kc_417, kc_418, kn_1, kn_36, kn_39, kn_41, kn_42, kn_43, kn_44, kn_45, kn_46, kn_209, kn_211, kn_212, kn_213, kn_214, kn_215, kn_216, kn_378, kn_380, kn_382, kn_383, kn_385, kn_386, kn_388, kn_390, kn_392, kn_393, kn_395, kn_414, kn_415, kn_417, kn_418, h32, hpO.1, hP2.2.1, e0]
        have hth : ∀ m, (dfr n mv D (bhk P st K D) (pls P) (frC P) (anN (wIn P n) (hN st)) 1 (m + mv)).isSome = true ↔ m + mv ≤ v := fun m => (b3 _).trans (thr_some v _)
        have hvD : v ≤ D := by
          have g := (b3 v).mpr ((thr_some v v).mpr (Nat.le_refl v))
          exact dfr_le (bhk_okB (st := st) (K := K) W hD 0 0 0) (Nat.le_refl D) (by omega) g
        by_cases c3 : nowN st + mv ≤ v
        · have e : lvI (some v) - nI mv = nI (v - mv) := nI_sub (by omega)
          rw [e, if_pos (nI_le (by omega) (by omega))]
          refine ⟨s2, nI (v - mv), rfl, Or.inr (Or.inr ⟨by omega, c2, Or.inl ⟨v - mv, by omega, by omega, rfl, (hth _).mpr (by omega), fun m' hm' => ?_⟩⟩), fr⟩
          cases g : (dfr n mv D (bhk P st K D) (pls P) (frC P) (anN (wIn P n) (hN st)) 1 (m' + mv)).isSome
          · rfl
          · have := (hth m').mp g; omega
        · have hneg : ¬ nI (nowN st) ≤ lvI (some v) - nI mv := by
            rw [i32_le, nI_toInt (by omega)]
            show ¬ _ ≤ (nI v - nI mv).toInt
            rw [Int32.toInt_sub, nI_toInt (by omega), nI_toInt (by omega), Int.bmod_eq_of_le (by omega) (by omega)]
            omega
          rw [if_neg hneg]
          refine ⟨s2, -1, rfl, Or.inr (Or.inr ⟨by omega, c2, Or.inr ⟨rfl, fun m hm => ?_⟩⟩), fr⟩
          cases g : (dfr n mv D (bhk P st K D) (pls P) (frC P) (anN (wIn P n) (hN st)) 1 (m + mv)).isSome
          · rfl
          · have := (hth m).mp g; omega
end CR
