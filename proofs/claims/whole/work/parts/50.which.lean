/- needs: 49.days -/
/-! which rule it was, both sides -/
/-- what is seen: of the class's scene at c, of the reference -/
def SnC (s : sg) (c ns : Nat) (sh sm : Nat → Nat) (sv : Nat → Bool) : Prop := s.1 c 6 = nI ns ∧ ∀ i, i < ns → s.1 (c + 6) i = nI (sh i) ∧ s.1 (c + 7) i = nI (sm i) ∧ s.1 (c + 8) i = sk_i (sv i)
def SnR (s : sg) (ns : Nat) (sh sm : Nat → Nat) (sv : Nat → Bool) : Prop := s.1 419 29 = nI ns ∧ ∀ i, i < ns → s.1 443 i = nI (sh i) ∧ s.1 444 i = nI (sm i) ∧ s.1 445 i = sk_i (sv i)
def Wn (n ns : Nat) (sh sm : Nat → Nat) : Prop := ns ≤ 8 ∧ ∀ i, i < ns → sh i < n ∧ sm i < 480
def fitB (t : dT) (sh sm : Nat → Nat) (sv : Nat → Bool) : Nat → Nat → Bool
  | 0, _ => true
  | f + 1, i => if decide (¬ nI (sm i + 1) < t.2.2.1 (sh i)) = sv i then fitB t sh sm sv f (i + 1) else false
theorem fitB_s (t : dT) (sh sm : Nat → Nat) (sv : Nat → Bool) (f i : Nat) : fitB t sh sm sv (f + 1) i = if decide (¬ nI (sm i + 1) < t.2.2.1 (sh i)) = sv i then fitB t sh sm sv f (i + 1) else false := rfl
section WH
variable {N : Nat} {s : sg} {P : pln} {st : Nat → Int32} {K : Nat → Bool} {n D mv k m nr p a w ns : Nat} {q : Nat → Int32} {b : Nat → Nat} {x : Int32} {sh sm : Nat → Nat} {sv : Nat → Bool}
theorem sBit_bt (y : Int32) {j : Nat} (hj : j < 32) : sBit y (nI j) = bt y j := by
  unfold sBit
  have := bit_of y j hj
  cases h : bt y j
  · rw [h] at this; exact decide_eq_false (fun g => absurd (this.mp g) (by decide))
  · rw [h] at this; exact decide_eq_true (this.mpr rfl)
/-- what a day says of when a shot was had -/
def hAi (st : Nat → Int32) (t : dT) : Prop := ∀ k, k < 8 → (bt (st 2) k = true → bt (t.1 2) k = true ∧ t.2.2.1 k = 0 ∧ bt t.2.1 k = false) ∧ (bt (st 2) k = false → bt t.2.1 k = false → t.2.2.1 k = 100000)
theorem dBy_hA (W : Wp P n D mv) (Z : Ws st n D) : hAi st (dBy P K n D mv q b x st) := by
  have hn8 := W.1
  refine dRun_inv (K := K) (g := gvl P K D q b x) W (hAi st) (fun t Zt hm hi => ?_) _ (t0 st) (Nat.le_refl _) Z ?_
  · unfold dSt
    rcases dPk_c (g := gvl P K D q b x) (K := K) W Zt hm with hq | ⟨k, hk, hq, hmk, hwy⟩
    · rw [if_pos hq]
      unfold dGo
      split
      · intro j hj
        obtain ⟨g1, g2⟩ := hi j hj
        exact ⟨fun c => ⟨(g1 c).1, (g1 c).2⟩, g2⟩
      · intro j hj
        obtain ⟨g1, g2⟩ := hi j hj
        exact ⟨fun c => ⟨(g1 c).1, (g1 c).2⟩, g2⟩
    · rw [hq, if_neg (m1_ne (by omega)), nI_clamp (by omega)]
      have hnot : bt (t.1 2) k = false := by
        have := (why_o.mp hwy).1
        unfold opk at this
        rw [sBit_bt _ (by omega)] at this
        cases h : bt (t.1 2) k
        · rfl
        · rw [h] at this; simp at this
      unfold dTk
      split
      · intro j hj
        obtain ⟨g1, g2⟩ := hi j hj
        have e2 : bt (sTk t.1 k (sGo P t.1 K k (nowN t.1) (ln P k - 1) 1) true 2) j = (bt (t.1 2) j || decide (j = k)) := by
          have : sTk t.1 k (sGo P t.1 K k (nowN t.1) (ln P k - 1) 1) true 2 = t.1 2 ||| ((1 : Int32) <<< (nI k &&& 31)) := rfl
          rw [this, b_or, b_shl1 k (by omega) (by omega)]
        have e3 : bt (t.2.1 ||| ((1 : Int32) <<< (nI k &&& 31))) j = (bt t.2.1 j || decide (j = k)) := by rw [b_or, b_shl1 k (by omega) (by omega)]
        refine ⟨fun c => ?_, fun c c2 => ?_⟩
        · obtain ⟨d1, d2, d3⟩ := g1 c
          have hjk : j ≠ k := fun e => by rw [e, hnot] at d1; cases d1
          refine ⟨?_, ?_, ?_⟩
          · show bt (sTk t.1 k (sGo P t.1 K k (nowN t.1) (ln P k - 1) 1) true 2) j = true
            rw [e2, d1]; rfl
          · show up1 t.2.2.1 k _ j = 0
            unfold up1
            rw [if_neg hjk]; exact d2
          · show bt (t.2.1 ||| _) j = false
            rw [e3, d3]; simp [hjk]
        · have c3 : bt (t.2.1 ||| ((1 : Int32) <<< (nI k &&& 31))) j = false := c2
          rw [e3] at c3
          simp only [Bool.or_eq_false_iff, decide_eq_false_iff_not] at c3
          show up1 t.2.2.1 k _ j = 100000
          unfold up1
          rw [if_neg c3.2]; exact g2 c c3.1
      · intro j hj
        obtain ⟨g1, g2⟩ := hi j hj
        refine ⟨fun c => ⟨?_, (g1 c).2⟩, g2⟩
        have e2 : sTk t.1 k (sGo P t.1 K k (nowN t.1) (ln P k - 1) 1) false 2 = t.1 2 := by
          unfold sTk
          simp only [Bool.false_eq_true, if_false]
          rw [if_neg (by omega), if_neg (by omega), if_neg (by omega), if_neg (by omega)]
        show bt (sTk t.1 k (sGo P t.1 K k (nowN t.1) (ln P k - 1) 1) false 2) j = true
        rw [e2]; exact (g1 c).1
  · intro k hk
    unfold t0 hA0
    refine ⟨fun c => ⟨c, ?_, b_0 k⟩, fun c _ => ?_⟩
    · show (if sBit (st 2) (nI k) = true then (0 : Int32) else 100000) = 0
      rw [sBit_bt _ (by omega), if_pos c]
    · show (if sBit (st 2) (nI k) = true then (0 : Int32) else 100000) = 100000
      rw [sBit_bt _ (by omega), c, if_neg (by decide)]
theorem c_ag21 (W : Wp P n D mv) (Z : Ws st n D) (hw : Wn n ns sh sm) (h : CQ s p P n D mv st K) (hS : SnC s 37 ns sh sm sv) {fl : Int32} (hd : CDy s (dBy P K n D mv q b x st) fl) : ∀ (f i : Nat), ns - i < f → i ≤ ns → lX11_agreesWithSeen_21 N f 0 (nI i) (mk s) = some (.inl (sk_i (fitB (dBy P K n D mv q b x st) sh sm sv (ns - i) i)), mk s) := by
  have hn8 := W.1
  intro f
  induction f with
  | zero => intro i hf; omega
  | succ f ih =>
    intro i hf hi
    show bX11_agreesWithSeen_21 N (lX11_agreesWithSeen_21 N f) 0 (nI i) (mk s) = _
    have h8 := hw.1
    unfold bX11_agreesWithSeen_21
    simp (decide := true) only [ob_s, cS_l, cS_r, gI_k, gR_k, pI_k, pR_k, cV_k, aI_k, tI_k, rZ_0, rZ_1, rZ_i, aR_24, aR_25, aZ_k, tZ_k, rf_3_6, rf_3_7, rf_3_8, rf_5_0, rf_5_1, rf_5_3, rf_5_4, rf_5_5, rf_5_7, rf_6_4, rf_6_11, rf_1_0, rf_1_1, rf_0_6, rf_9_7, rf_9_8, rf_8_0, rf_11_0, rf_11_5, rf_11_6, rf_11_7, rf_11_9, rf_11_10, rf_11_11, rf_11_12, rf_11_3, rf_11_4, Nat.reduceAdd, Nat.zero_add, kc_0, kc_1, kc_34, kc_35, kc_36, kc_37, kc_38, kc_39, kc_40, kc_41, kc_42, kc_43, kc_44, kc_45, kc_46, kc_207, kc_208, kc_209, kc_210, kc_211, kc_212, kc_213, kc_214, kc_215, kc_216, kc_377, kc_378, kc_379, kc_380, kc_381, kc_382, kc_383, kc_384, kc_385, kc_386, kc_387, kc_388, kc_389, kc_390, kc_391, kc_392, kc_393, kc_394, kc_395, kc_414, kc_415, kc_416, kc_417, kc_418, kn_1, kn_36, kn_39, kn_41, kn_42, kn_43, kn_44, kn_45, kn_46, kn_209, kn_211, kn_212, kn_213, kn_214, kn_215, kn_216, kn_378, kn_380, kn_382, kn_383, kn_385, kn_386, kn_388, kn_390, kn_392, kn_393, kn_395, kn_414, kn_415, kn_417, kn_418, hS.1]
    by_cases c : ns ≤ i
    · rw [if_pos (nI_le c (by omega)), show ns - i = 0 by omega]; rfl
    · rw [if_neg (nI_ge (by omega) (by omega))]
      obtain ⟨g, hg, hg2⟩ := sub1 (show i < ns by omega)
      obtain ⟨w1', w2'⟩ := hw.2 i (by omega)
      obtain ⟨s1, s2, s3⟩ := hS.2 i (by omega)
      have ii : inB (nI i) 8 = true := inA_nI (by omega) (by omega)
      have ik : inB (nI (sh i)) 8 = true := inA_nI (by omega) (by omega)
      have s1' : s.1 43 i = nI (sh i) := s1
      have s2' : s.1 44 i = nI (sm i) := s2
      have s3' : s.1 45 i = sk_i (sv i) := s3
      simp (decide := true) only [ob_s, cS_l, cS_r, gI_k, gR_k, pI_k, pR_k, cV_k, aI_k, tI_k, rZ_0, rZ_1, rZ_i, aR_24, aR_25, aZ_k, tZ_k, rf_3_6, rf_3_7, rf_3_8, rf_5_0, rf_5_1, rf_5_3, rf_5_4, rf_5_5, rf_5_7, rf_6_4, rf_6_11, rf_1_0, rf_1_1, rf_0_6, rf_9_7, rf_9_8, rf_8_0, rf_11_0, rf_11_5, rf_11_6, rf_11_7, rf_11_9, rf_11_10, rf_11_11, rf_11_12, rf_11_3, rf_11_4, Nat.reduceAdd, Nat.zero_add, kc_0, kc_1, kc_34, kc_35, kc_36, kc_37, kc_38, kc_39, kc_40, kc_41, kc_42, kc_43, kc_44, kc_45, kc_46, kc_207, kc_208, kc_209, kc_210, kc_211, kc_212, kc_213, kc_214, kc_215, kc_216, kc_377, kc_378, kc_379, kc_380, kc_381, kc_382, kc_383, kc_384, kc_385, kc_386, kc_387, kc_388, kc_389, kc_390, kc_391, kc_392, kc_393, kc_394, kc_395, kc_414, kc_415, kc_416, kc_417, kc_418, kn_1, kn_36, kn_39, kn_41, kn_42, kn_43, kn_44, kn_45, kn_46, kn_209, kn_211, kn_212, kn_213, kn_214, kn_215, kn_216, kn_378, kn_380, kn_382, kn_383, kn_385, kn_386, kn_388, kn_390, kn_392, kn_393, kn_395, kn_414, kn_415, kn_417, kn_418, ii, nI_clamp (show i < 2 ^ 31 by omega), s1', s2', c_isHad (stA_O (Or.inl rfl)) h.2.2.2, sk_0]
      rw [hg, fitB_s]
      have fin : ∀ y : Bool, y = decide (¬ nI (sm i + 1) < (dBy P K n D mv q b x st).2.2.1 (sh i)) → bX11_agreesWithSeen_81 N (lX11_agreesWithSeen_21 N f) 0 (nI i) (sk_i y) (mk s) = some (.inl (sk_i (if decide (¬ nI (sm i + 1) < (dBy P K n D mv q b x st).2.2.1 (sh i)) = sv i then fitB (dBy P K n D mv q b x st) sh sm sv g (i + 1) else false)), mk s) := by
        intro y hy
        unfold bX11_agreesWithSeen_81
        simp (decide := true) only [ob_s, cS_l, cS_r, gI_k, gR_k, pI_k, pR_k, cV_k, aI_k, tI_k, rZ_0, rZ_1, rZ_i, aR_24, aR_25, aZ_k, tZ_k, rf_3_6, rf_3_7, rf_3_8, rf_5_0, rf_5_1, rf_5_3, rf_5_4, rf_5_5, rf_5_7, rf_6_4, rf_6_11, rf_1_0, rf_1_1, rf_0_6, rf_9_7, rf_9_8, rf_8_0, rf_11_0, rf_11_5, rf_11_6, rf_11_7, rf_11_9, rf_11_10, rf_11_11, rf_11_12, rf_11_3, rf_11_4, Nat.reduceAdd, Nat.zero_add, kc_0, kc_1, kc_34, kc_35, kc_36, kc_37, kc_38, kc_39, kc_40, kc_41, kc_42, kc_43, kc_44, kc_45, kc_46, kc_207, kc_208, kc_209, kc_210, kc_211, kc_212, kc_213, kc_214, kc_215, kc_216, kc_377, kc_378, kc_379, kc_380, kc_381, kc_382, kc_383, kc_384, kc_385, kc_386, kc_387, kc_388, kc_389, kc_390, kc_391, kc_392, kc_393, kc_394, kc_395, kc_414, kc_415, kc_416, kc_417, kc_418, kn_1, kn_36, kn_39, kn_41, kn_42, kn_43, kn_44, kn_45, kn_46, kn_209, kn_211, kn_212, kn_213, kn_214, kn_215, kn_216, kn_378, kn_380, kn_382, kn_383, kn_385, kn_386, kn_388, kn_390, kn_392, kn_393, kn_395, kn_414, kn_415, kn_417, kn_418, ii, nI_clamp (show i < 2 ^ 31 by omega), s3', sk_inj, nI_1]
        rw [← hy]
        by_cases c2 : y = sv i
        · rw [if_pos c2, if_pos c2, ih (i + 1) (by omega) (by omega), hg2]
        · rw [if_neg c2, if_neg c2]; rfl
      obtain ⟨k1, k2⟩ := dBy_hA (K := K) (q := q) (b := b) (x := x) W Z (sh i) (by omega)
      rw [sBit_bt _ (by omega)]
      cases hb : bt (st 2) (sh i)
      · rw [if_neg (fun g => g rfl)]
        have hby : fX0_isHadBy N 384 (nI (sh i)) (nI (sm i)) (mk s) = some (.inl (sk_i (decide (¬ nI (sm i + 1) < (dBy P K n D mv q b x st).2.2.1 (sh i)))), mk s) := by
          unfold fX0_isHadBy bX0_isHadBy_0
          simp (decide := true) only [ob_s, cS_l, cS_r, gI_k, gR_k, pI_k, pR_k, cV_k, aI_k, tI_k, rZ_0, rZ_1, rZ_i, aR_24, aR_25, aZ_k, tZ_k, rf_3_6, rf_3_7, rf_3_8, rf_5_0, rf_5_1, rf_5_3, rf_5_4, rf_5_5, rf_5_7, rf_6_4, rf_6_11, rf_1_0, rf_1_1, rf_0_6, rf_9_7, rf_9_8, rf_8_0, rf_11_0, rf_11_5, rf_11_6, rf_11_7, rf_11_9, rf_11_10, rf_11_11, rf_11_12, rf_11_3, rf_11_4, Nat.reduceAdd, Nat.zero_add, kc_0, kc_1, kc_34, kc_35, kc_36, kc_37, kc_38, kc_39, kc_40, kc_41, kc_42, kc_43, kc_44, kc_45, kc_46, kc_207, kc_208, kc_209, kc_210, kc_211, kc_212, kc_213, kc_214, kc_215, kc_216, kc_377, kc_378, kc_379, kc_380, kc_381, kc_382, kc_383, kc_384, kc_385, kc_386, kc_387, kc_388, kc_389, kc_390, kc_391, kc_392, kc_393, kc_394, kc_395, kc_414, kc_415, kc_416, kc_417, kc_418, kn_1, kn_36, kn_39, kn_41, kn_42, kn_43, kn_44, kn_45, kn_46, kn_209, kn_211, kn_212, kn_213, kn_214, kn_215, kn_216, kn_378, kn_380, kn_382, kn_383, kn_385, kn_386, kn_388, kn_390, kn_392, kn_393, kn_395, kn_414, kn_415, kn_417, kn_418, hd.1]
          have hbb := bit_of (dBy P K n D mv q b x st).2.1 (sh i) (by omega)
          cases hc : bt (dBy P K n D mv q b x st).2.1 (sh i)
          · rw [if_pos (fun g => by have := hbb.mp g; rw [hc] at this; cases this), k2 hb hc]
            have : nI (sm i + 1) < (100000 : Int32) := nI_lt (b := 100000) (by omega) (by omega)
            simp [this, sk_i]
          · rw [if_neg (fun g => g (hbb.mpr hc))]
            have he := hd.2.1 (sh i) (by omega) (by rw [sBit_bt _ (by omega)]; exact hc)
            simp (decide := true) only [ob_s, cS_l, cS_r, gI_k, gR_k, pI_k, pR_k, cV_k, aI_k, tI_k, rZ_0, rZ_1, rZ_i, aR_24, aR_25, aZ_k, tZ_k, rf_3_6, rf_3_7, rf_3_8, rf_5_0, rf_5_1, rf_5_3, rf_5_4, rf_5_5, rf_5_7, rf_6_4, rf_6_11, rf_1_0, rf_1_1, rf_0_6, rf_9_7, rf_9_8, rf_8_0, rf_11_0, rf_11_5, rf_11_6, rf_11_7, rf_11_9, rf_11_10, rf_11_11, rf_11_12, rf_11_3, rf_11_4, Nat.reduceAdd, Nat.zero_add, kc_0, kc_1, kc_34, kc_35, kc_36, kc_37, kc_38, kc_39, kc_40, kc_41, kc_42, kc_43, kc_44, kc_45, kc_46, kc_207, kc_208, kc_209, kc_210, kc_211, kc_212, kc_213, kc_214, kc_215, kc_216, kc_377, kc_378, kc_379, kc_380, kc_381, kc_382, kc_383, kc_384, kc_385, kc_386, kc_387, kc_388, kc_389, kc_390, kc_391, kc_392, kc_393, kc_394, kc_395, kc_414, kc_415, kc_416, kc_417, kc_418, kn_1, kn_36, kn_39, kn_41, kn_42, kn_43, kn_44, kn_45, kn_46, kn_209, kn_211, kn_212, kn_213, kn_214, kn_215, kn_216, kn_378, kn_380, kn_382, kn_383, kn_385, kn_386, kn_388, kn_390, kn_392, kn_393, kn_395, kn_414, kn_415, kn_417, kn_418, ik, nI_clamp (show sh i < 2 ^ 31 by omega), he, nI_1]
            by_cases c4 : nI (sm i + 1) < (dBy P K n D mv q b x st).2.2.1 (sh i)
            · rw [if_pos c4]; simp [c4, sk_i]
            · rw [if_neg c4]; simp [c4, sk_i]
        simp (decide := true) only [ob_s, cS_l, cS_r, gI_k, gR_k, pI_k, pR_k, cV_k, aI_k, tI_k, rZ_0, rZ_1, rZ_i, aR_24, aR_25, aZ_k, tZ_k, rf_3_6, rf_3_7, rf_3_8, rf_5_0, rf_5_1, rf_5_3, rf_5_4, rf_5_5, rf_5_7, rf_6_4, rf_6_11, rf_1_0, rf_1_1, rf_0_6, rf_9_7, rf_9_8, rf_8_0, rf_11_0, rf_11_5, rf_11_6, rf_11_7, rf_11_9, rf_11_10, rf_11_11, rf_11_12, rf_11_3, rf_11_4, Nat.reduceAdd, Nat.zero_add, kc_0, kc_1, kc_34, kc_35, kc_36, kc_37, kc_38, kc_39, kc_40, kc_41, kc_42, kc_43, kc_44, kc_45, kc_46, kc_207, kc_208, kc_209, kc_210, kc_211, kc_212, kc_213, kc_214, kc_215, kc_216, kc_377, kc_378, kc_379, kc_380, kc_381, kc_382, kc_383, kc_384, kc_385, kc_386, kc_387, kc_388, kc_389, kc_390, kc_391, kc_392, kc_393, kc_394, kc_395, kc_414, kc_415, kc_416, kc_417, kc_418, kn_1, kn_36, kn_39, kn_41, kn_42, kn_43, kn_44, kn_45, kn_46, kn_209, kn_211, kn_212, kn_213, kn_214, kn_215, kn_216, kn_378, kn_380, kn_382, kn_383, kn_385, kn_386, kn_388, kn_390, kn_392, kn_393, kn_395, kn_414, kn_415, kn_417, kn_418, hby, sk_0]
        cases hy : decide (¬ nI (sm i + 1) < (dBy P K n D mv q b x st).2.2.1 (sh i))
        · rw [if_pos rfl]
          have := fin false hy.symm
          rw [hy] at this
          exact this
        · rw [if_neg (by decide)]
          unfold bX11_agreesWithSeen_76
          have := fin true hy.symm
          rw [hy] at this
          exact this
      · rw [if_pos (by decide)]
        obtain ⟨d1, d2, d3⟩ := k1 hb
        unfold bX11_agreesWithSeen_76
        refine fin true ?_
        rw [d2]
        have hz : ¬ nI (sm i + 1) < 0 := nI_pos (by omega)
        simp [hz]
theorem c_agrees (hN1 : 1000 ≤ N) (W : Wp P n D mv) (Z : Ws st n D) (R : Wr nr q b) (hw : Wn n ns sh sm) (hx : isRl nr x) (h : CR2 s p P n D mv nr q b st K) (hS : SnC s 37 ns sh sm sv) : ∃ s', fX11_agreesWithSeen N 0 x (mk s) = some (.inl (sk_i (fitB (dBy P K n D mv q b x st) sh sm sv ns 0)), mk s') ∧ Fr cQ s s' := by
  have hn8 := W.1
  have h8 := hw.1
  obtain ⟨s1, a1, a2, a3⟩ := c_runsQ (N := N) hN1 W Z R hx h
  have h1 := CR2_fr h hn8 a3
  have hS1 : SnC s1 37 ns sh sm sv := ⟨(a3.1 _ _ (by unfold cQ; omega)).trans hS.1, fun i hi => ⟨(a3.1 _ _ (by unfold cQ; omega)).trans (hS.2 i hi).1, (a3.1 _ _ (by unfold cQ; omega)).trans (hS.2 i hi).2.1, (a3.1 _ _ (by unfold cQ; omega)).trans (hS.2 i hi).2.2⟩⟩
  refine ⟨s1, ?_, a3⟩
  have := c_ag21 (N := N) W Z hw h1.1 hS1 a2 N 0 (by omega) (by omega)
  rw [show ns - 0 = ns by omega] at this
  unfold fX11_agreesWithSeen bX11_agreesWithSeen_0
  simp (decide := true) only [ob_s, cS_l, cS_r, gI_k, gR_k, pI_k, pR_k, cV_k, aI_k, tI_k, rZ_0, rZ_1, rZ_i, aR_24, aR_25, aZ_k, tZ_k, rf_3_6, rf_3_7, rf_3_8, rf_5_0, rf_5_1, rf_5_3, rf_5_4, rf_5_5, rf_5_7, rf_6_4, rf_6_11, rf_1_0, rf_1_1, rf_0_6, rf_9_7, rf_9_8, rf_8_0, rf_11_0, rf_11_5, rf_11_6, rf_11_7, rf_11_9, rf_11_10, rf_11_11, rf_11_12, rf_11_3, rf_11_4, Nat.reduceAdd, Nat.zero_add, kc_0, kc_1, kc_34, kc_35, kc_36, kc_37, kc_38, kc_39, kc_40, kc_41, kc_42, kc_43, kc_44, kc_45, kc_46, kc_207, kc_208, kc_209, kc_210, kc_211, kc_212, kc_213, kc_214, kc_215, kc_216, kc_377, kc_378, kc_379, kc_380, kc_381, kc_382, kc_383, kc_384, kc_385, kc_386, kc_387, kc_388, kc_389, kc_390, kc_391, kc_392, kc_393, kc_394, kc_395, kc_414, kc_415, kc_416, kc_417, kc_418, kn_1, kn_36, kn_39, kn_41, kn_42, kn_43, kn_44, kn_45, kn_46, kn_209, kn_211, kn_212, kn_213, kn_214, kn_215, kn_216, kn_378, kn_380, kn_382, kn_383, kn_385, kn_386, kn_388, kn_390, kn_392, kn_393, kn_395, kn_414, kn_415, kn_417, kn_418, h.1.2.1, a1]
  exact this
theorem r_fits7 (W : Wp P n D mv) (hw : Wn n ns sh sm) {t : dT} (hd : DAr s t) (hS : SnR s ns sh sm sv) : ∀ (f i : Nat), ns - i < f → i ≤ ns → lX12_fits_7 N f 419 (nI i) (mk s) = some (.inl (sk_i (fitB t sh sm sv (ns - i) i)), mk s) := by
  have hn8 := W.1
  intro f
  induction f with
  | zero => intro i hf; omega
  | succ f ih =>
    intro i hf hi
    show bX12_fits_7 N (lX12_fits_7 N f) 419 (nI i) (mk s) = _
    have h8 := hw.1
    unfold bX12_fits_7
    simp (decide := true) only [ob_s, cS_l, cS_r, gI_k, gR_k, pI_k, pR_k, cV_k, aI_k, tI_k, rZ_0, rZ_1, rZ_i, rf_12_0, rf_12_1, rf_12_3, rf_12_4, rf_12_5, rf_12_6, rf_12_7, rf_12_8, rf_12_9, rf_12_10, rf_12_11, rf_12_12, rf_12_13, rf_12_14, rf_12_15, rf_12_26, rf_12_27, rf_12_31, rf_12_32, rf_12_33, rf_12_34, rf_12_41, rf_12_44, rf_12_47, rf_12_48, rf_12_49, rf_12_51, rf_12_55, rf_12_56, rf_12_57, rf_12_58, rf_12_59, rf_12_60, Nat.reduceAdd, kc_419, kc_420, kc_421, kc_422, kc_423, kc_424, kc_425, kc_426, kc_427, kc_428, kc_429, kc_430, kc_431, kc_432, kc_433, kc_434, kc_435, kc_436, kc_437, kc_438, kc_439, kc_440, kc_441, kc_442, kc_443, kc_444, kc_445, kc_446, kc_447, kc_448, kc_449, kc_450, kc_451, kc_452, kc_453, kn_420, kn_421, kn_422, kn_423, kn_424, kn_425, kn_426, kn_427, kn_428, kn_429, kn_430, kn_431, kn_432, kn_433, kn_434, kn_435, kn_436, kn_437, kn_438, kn_439, kn_440, kn_441, kn_442, kn_443, kn_444, kn_445, kn_446, kn_447, kn_448, kn_449, kn_450, kn_451, kn_452, kn_453, hS.1]
    by_cases c : ns ≤ i
    · rw [if_pos (nI_le c (by omega)), show ns - i = 0 by omega]; rfl
    · rw [if_neg (nI_ge (by omega) (by omega))]
      obtain ⟨g, hg, hg2⟩ := sub1 (show i < ns by omega)
      obtain ⟨w1', w2'⟩ := hw.2 i (by omega)
      obtain ⟨s1, s2, s3⟩ := hS.2 i (by omega)
      have ii : inB (nI i) 8 = true := inA_nI (by omega) (by omega)
      have ik : inB (nI (sh i)) 8 = true := inA_nI (by omega) (by omega)
      simp (decide := true) only [ob_s, cS_l, cS_r, gI_k, gR_k, pI_k, pR_k, cV_k, aI_k, tI_k, rZ_0, rZ_1, rZ_i, rf_12_0, rf_12_1, rf_12_3, rf_12_4, rf_12_5, rf_12_6, rf_12_7, rf_12_8, rf_12_9, rf_12_10, rf_12_11, rf_12_12, rf_12_13, rf_12_14, rf_12_15, rf_12_26, rf_12_27, rf_12_31, rf_12_32, rf_12_33, rf_12_34, rf_12_41, rf_12_44, rf_12_47, rf_12_48, rf_12_49, rf_12_51, rf_12_55, rf_12_56, rf_12_57, rf_12_58, rf_12_59, rf_12_60, Nat.reduceAdd, kc_419, kc_420, kc_421, kc_422, kc_423, kc_424, kc_425, kc_426, kc_427, kc_428, kc_429, kc_430, kc_431, kc_432, kc_433, kc_434, kc_435, kc_436, kc_437, kc_438, kc_439, kc_440, kc_441, kc_442, kc_443, kc_444, kc_445, kc_446, kc_447, kc_448, kc_449, kc_450, kc_451, kc_452, kc_453, kn_420, kn_421, kn_422, kn_423, kn_424, kn_425, kn_426, kn_427, kn_428, kn_429, kn_430, kn_431, kn_432, kn_433, kn_434, kn_435, kn_436, kn_437, kn_438, kn_439, kn_440, kn_441, kn_442, kn_443, kn_444, kn_445, kn_446, kn_447, kn_448, kn_449, kn_450, kn_451, kn_452, kn_453, ii, nI_clamp (show i < 2 ^ 31 by omega), s1, s2, ik, nI_clamp (show sh i < 2 ^ 31 by omega), hd.2.1 (sh i) (by omega), nI_1]
      rw [hg, fitB_s]
      have fin : ∀ y : Bool, y = decide (¬ nI (sm i + 1) < t.2.2.1 (sh i)) → bX12_fits_42 N (lX12_fits_7 N f) 419 (nI i) (sk_i y) (mk s) = some (.inl (sk_i (if decide (¬ nI (sm i + 1) < t.2.2.1 (sh i)) = sv i then fitB t sh sm sv g (i + 1) else false)), mk s) := by
        intro y hy
        unfold bX12_fits_42 bX12_fits_57
        simp (decide := true) only [ob_s, cS_l, cS_r, gI_k, gR_k, pI_k, pR_k, cV_k, aI_k, tI_k, rZ_0, rZ_1, rZ_i, rf_12_0, rf_12_1, rf_12_3, rf_12_4, rf_12_5, rf_12_6, rf_12_7, rf_12_8, rf_12_9, rf_12_10, rf_12_11, rf_12_12, rf_12_13, rf_12_14, rf_12_15, rf_12_26, rf_12_27, rf_12_31, rf_12_32, rf_12_33, rf_12_34, rf_12_41, rf_12_44, rf_12_47, rf_12_48, rf_12_49, rf_12_51, rf_12_55, rf_12_56, rf_12_57, rf_12_58, rf_12_59, rf_12_60, Nat.reduceAdd, kc_419, kc_420, kc_421, kc_422, kc_423, kc_424, kc_425, kc_426, kc_427, kc_428, kc_429, kc_430, kc_431, kc_432, kc_433, kc_434, kc_435, kc_436, kc_437, kc_438, kc_439, kc_440, kc_441, kc_442, kc_443, kc_444, kc_445, kc_446, kc_447, kc_448, kc_449, kc_450, kc_451, kc_452, kc_453, kn_420, kn_421, kn_422, kn_423, kn_424, kn_425, kn_426, kn_427, kn_428, kn_429, kn_430, kn_431, kn_432, kn_433, kn_434, kn_435, kn_436, kn_437, kn_438, kn_439, kn_440, kn_441, kn_442, kn_443, kn_444, kn_445, kn_446, kn_447, kn_448, kn_449, kn_450, kn_451, kn_452, kn_453, ii, nI_clamp (show i < 2 ^ 31 by omega), s3, sk_1, nI_1]
        rw [← hy, ih (i + 1) (by omega) (by omega), hg2]
        cases y <;> cases sv i <;> simp (decide := true) [sk_i, rZ]
      by_cases c2 : nI (sm i + 1) < t.2.2.1 (sh i)
      · rw [if_pos c2]
        exact fin false (decide_eq_false (fun g => g c2)).symm
      · rw [if_neg c2]
        exact fin true (decide_eq_true c2).symm
theorem r_fits (hN1 : 1000 ≤ N) (W : Wp P n D mv) (Z : Ws st n D) (R : Wr nr q b) (hw : Wn n ns sh sm) (hx : isRl nr x) (h : RU2 s P nr q b st K) (hS : SnR s ns sh sm sv) : ∃ s', fX12_fits N 419 x (mk s) = some (.inl (sk_i (fitB (dBy P K n D mv q b x st) sh sm sv ns 0)), mk s') ∧ s'.1 419 2 = s.1 419 2 ∧ RU2 s' P nr q b st K ∧ SnR s' ns sh sm sv ∧ Fr rS s s' := by
  have h8 := hw.1
  obtain ⟨s1, a1, a2, a3, a4, a5, a6⟩ := r_dayBy (N := N) hN1 W Z R hx h.1 h.2.1
  have hS1 : SnR s1 ns sh sm sv := ⟨(a6.1 _ _ (by unfold rS rQ; omega)).trans hS.1, fun i hi => ⟨(a6.1 _ _ (by unfold rS rQ; omega)).trans (hS.2 i hi).1, (a6.1 _ _ (by unfold rS rQ; omega)).trans (hS.2 i hi).2.1, (a6.1 _ _ (by unfold rS rQ; omega)).trans (hS.2 i hi).2.2⟩⟩
  refine ⟨s1, ?_, a5, RU2_s h a6 (RV_U a4), hS1, a6⟩
  have := r_fits7 (N := N) W hw a2 hS1 N 0 (by omega) (by omega)
  rw [show ns - 0 = ns by omega] at this
  unfold fX12_fits bX12_fits_0
  simp (decide := true) only [ob_s, cS_l, cS_r, gI_k, gR_k, pI_k, pR_k, cV_k, aI_k, tI_k, rZ_0, rZ_1, rZ_i, rf_12_0, rf_12_1, rf_12_3, rf_12_4, rf_12_5, rf_12_6, rf_12_7, rf_12_8, rf_12_9, rf_12_10, rf_12_11, rf_12_12, rf_12_13, rf_12_14, rf_12_15, rf_12_26, rf_12_27, rf_12_31, rf_12_32, rf_12_33, rf_12_34, rf_12_41, rf_12_44, rf_12_47, rf_12_48, rf_12_49, rf_12_51, rf_12_55, rf_12_56, rf_12_57, rf_12_58, rf_12_59, rf_12_60, Nat.reduceAdd, kc_419, kc_420, kc_421, kc_422, kc_423, kc_424, kc_425, kc_426, kc_427, kc_428, kc_429, kc_430, kc_431, kc_432, kc_433, kc_434, kc_435, kc_436, kc_437, kc_438, kc_439, kc_440, kc_441, kc_442, kc_443, kc_444, kc_445, kc_446, kc_447, kc_448, kc_449, kc_450, kc_451, kc_452, kc_453, kn_420, kn_421, kn_422, kn_423, kn_424, kn_425, kn_426, kn_427, kn_428, kn_429, kn_430, kn_431, kn_432, kn_433, kn_434, kn_435, kn_436, kn_437, kn_438, kn_439, kn_440, kn_441, kn_442, kn_443, kn_444, kn_445, kn_446, kn_447, kn_448, kn_449, kn_450, kn_451, kn_452, kn_453, a1]
  exact this
/-- the rules that may be, as bits -/
def whb (f : Nat → Bool) : Nat → Nat
  | 0 => 0
  | r + 1 => if f r = true then whb f r ||| 2 ^ r else whb f r
theorem whb_s (f : Nat → Bool) (r : Nat) : whb f (r + 1) = if f r = true then whb f r ||| 2 ^ r else whb f r := rfl
def aWhich (P : pln) (K : Nat → Bool) (n D mv nr ns : Nat) (q : Nat → Int32) (b : Nat → Nat) (st : Nat → Int32) (sh sm : Nat → Nat) (sv : Nat → Bool) : Int32 := nI (whb (fun r => fitB (dBy P K n D mv q b (nI r) st) sh sm sv ns 0) nr ||| (if fitB (dBy P K n D mv q b (-1) st) sh sm sv ns 0 = true then 16 else 0))
theorem c_wh4 (hN1 : 1000 ≤ N) (W : Wp P n D mv) (Z : Ws st n D) (R : Wr nr q b) (hw : Wn n ns sh sm) : ∀ (f i : Nat) (s : sg), nr - i < f → i ≤ nr → CR2 s p P n D mv nr q b st K → SnC s 37 ns sh sm sv → ∃ s', lX11_which_4 N f 0 (nI (whb (fun r => fitB (dBy P K n D mv q b (nI r) st) sh sm sv ns 0) i)) (nI i) (mk s) = some (.inl (aWhich P K n D mv nr ns q b st sh sm sv), mk s') ∧ Fr cQ s s' := by
  have hn8 := W.1
  have hr4 := R.1
  have snf : ∀ s s' : sg, SnC s 37 ns sh sm sv → Fr cQ s s' → SnC s' 37 ns sh sm sv := fun s s' hS a3 => by
    have h8 := hw.1
    exact ⟨(a3.1 _ _ (by unfold cQ; omega)).trans hS.1, fun i hi => ⟨(a3.1 _ _ (by unfold cQ; omega)).trans (hS.2 i hi).1, (a3.1 _ _ (by unfold cQ; omega)).trans (hS.2 i hi).2.1, (a3.1 _ _ (by unfold cQ; omega)).trans (hS.2 i hi).2.2⟩⟩
  intro f
  induction f with
  | zero => intro i s hf; omega
  | succ f ih =>
    intro i s hf hi h hS
    have hpO := plA_O h.1.1
    have hrO := plA_r h.1.1
    show ∃ s', bX11_which_4 N (lX11_which_4 N f) 0 (nI (whb (fun r => fitB (dBy P K n D mv q b (nI r) st) sh sm sv ns 0) i)) (nI i) (mk s) = _ ∧ _
    unfold bX11_which_4
    simp (decide := true) only [ob_s, cS_l, cS_r, gI_k, gR_k, pI_k, pR_k, cV_k, aI_k, tI_k, rZ_0, rZ_1, rZ_i, aR_24, aR_25, aZ_k, tZ_k, rf_3_6, rf_3_7, rf_3_8, rf_5_0, rf_5_1, rf_5_3, rf_5_4, rf_5_5, rf_5_7, rf_6_4, rf_6_11, rf_1_0, rf_1_1, rf_0_6, rf_9_7, rf_9_8, rf_8_0, rf_11_0, rf_11_5, rf_11_6, rf_11_7, rf_11_9, rf_11_10, rf_11_11, rf_11_12, rf_11_3, rf_11_4, Nat.reduceAdd, Nat.zero_add, kc_0, kc_1, kc_34, kc_35, kc_36, kc_37, kc_38, kc_39, kc_40, kc_41, kc_42, kc_43, kc_44, kc_45, kc_46, kc_207, kc_208, kc_209, kc_210, kc_211, kc_212, kc_213, kc_214, kc_215, kc_216, kc_377, kc_378, kc_379, kc_380, kc_381, kc_382, kc_383, kc_384, kc_385, kc_386, kc_387, kc_388, kc_389, kc_390, kc_391, kc_392, kc_393, kc_394, kc_395, kc_414, kc_415, kc_416, kc_417, kc_418, kn_1, kn_36, kn_39, kn_41, kn_42, kn_43, kn_44, kn_45, kn_46, kn_209, kn_211, kn_212, kn_213, kn_214, kn_215, kn_216, kn_378, kn_380, kn_382, kn_383, kn_385, kn_386, kn_388, kn_390, kn_392, kn_393, kn_395, kn_414, kn_415, kn_417, kn_418, h.1.2.1, hpO.1, hrO.1, h.2.1]
    by_cases c : nr ≤ i
    · rw [if_pos (nI_le c (by omega))]
      have : i = nr := by omega
      subst this
      unfold bX11_which_38
      obtain ⟨s1, a1, a2⟩ := c_agrees (N := N) (x := -1) hN1 W Z R hw (Or.inl rfl) h hS
      simp (decide := true) only [ob_s, cS_l, cS_r, gI_k, gR_k, pI_k, pR_k, cV_k, aI_k, tI_k, rZ_0, rZ_1, rZ_i, aR_24, aR_25, aZ_k, tZ_k, rf_3_6, rf_3_7, rf_3_8, rf_5_0, rf_5_1, rf_5_3, rf_5_4, rf_5_5, rf_5_7, rf_6_4, rf_6_11, rf_1_0, rf_1_1, rf_0_6, rf_9_7, rf_9_8, rf_8_0, rf_11_0, rf_11_5, rf_11_6, rf_11_7, rf_11_9, rf_11_10, rf_11_11, rf_11_12, rf_11_3, rf_11_4, Nat.reduceAdd, Nat.zero_add, kc_0, kc_1, kc_34, kc_35, kc_36, kc_37, kc_38, kc_39, kc_40, kc_41, kc_42, kc_43, kc_44, kc_45, kc_46, kc_207, kc_208, kc_209, kc_210, kc_211, kc_212, kc_213, kc_214, kc_215, kc_216, kc_377, kc_378, kc_379, kc_380, kc_381, kc_382, kc_383, kc_384, kc_385, kc_386, kc_387, kc_388, kc_389, kc_390, kc_391, kc_392, kc_393, kc_394, kc_395, kc_414, kc_415, kc_416, kc_417, kc_418, kn_1, kn_36, kn_39, kn_41, kn_42, kn_43, kn_44, kn_45, kn_46, kn_209, kn_211, kn_212, kn_213, kn_214, kn_215, kn_216, kn_378, kn_380, kn_382, kn_383, kn_385, kn_386, kn_388, kn_390, kn_392, kn_393, kn_395, kn_414, kn_415, kn_417, kn_418, a1, sk_0]
      refine ⟨s1, ?_, a2⟩
      unfold aWhich
      cases fitB (dBy P K n D mv q b (-1) st) sh sm sv ns 0
      · rw [if_pos rfl, if_neg (by decide), Nat.or_zero]
      · rw [if_neg (by decide), if_pos rfl, ← or_nI]; rfl
    · rw [if_neg (nI_ge (by omega) (by omega))]
      obtain ⟨s1, a1, a2⟩ := c_agrees (N := N) (x := nI i) hN1 W Z R hw (Or.inr ⟨i, by omega, rfl⟩) h hS
      simp (decide := true) only [ob_s, cS_l, cS_r, gI_k, gR_k, pI_k, pR_k, cV_k, aI_k, tI_k, rZ_0, rZ_1, rZ_i, aR_24, aR_25, aZ_k, tZ_k, rf_3_6, rf_3_7, rf_3_8, rf_5_0, rf_5_1, rf_5_3, rf_5_4, rf_5_5, rf_5_7, rf_6_4, rf_6_11, rf_1_0, rf_1_1, rf_0_6, rf_9_7, rf_9_8, rf_8_0, rf_11_0, rf_11_5, rf_11_6, rf_11_7, rf_11_9, rf_11_10, rf_11_11, rf_11_12, rf_11_3, rf_11_4, Nat.reduceAdd, Nat.zero_add, kc_0, kc_1, kc_34, kc_35, kc_36, kc_37, kc_38, kc_39, kc_40, kc_41, kc_42, kc_43, kc_44, kc_45, kc_46, kc_207, kc_208, kc_209, kc_210, kc_211, kc_212, kc_213, kc_214, kc_215, kc_216, kc_377, kc_378, kc_379, kc_380, kc_381, kc_382, kc_383, kc_384, kc_385, kc_386, kc_387, kc_388, kc_389, kc_390, kc_391, kc_392, kc_393, kc_394, kc_395, kc_414, kc_415, kc_416, kc_417, kc_418, kn_1, kn_36, kn_39, kn_41, kn_42, kn_43, kn_44, kn_45, kn_46, kn_209, kn_211, kn_212, kn_213, kn_214, kn_215, kn_216, kn_378, kn_380, kn_382, kn_383, kn_385, kn_386, kn_388, kn_390, kn_392, kn_393, kn_395, kn_414, kn_415, kn_417, kn_418, a1, sk_0]
      unfold bX11_which_32
      obtain ⟨s2, b1, b2⟩ := ih (i + 1) s1 (by omega) (by omega) (CR2_fr h hn8 a2) (snf _ _ hS a2)
      rw [whb_s] at b1
      rw [nI_1]
      refine ⟨s2, ?_, Fr_t a2 b2⟩
      cases hc : fitB (dBy P K n D mv q b (nI i) st) sh sm sv ns 0
      · rw [if_pos rfl]
        rw [hc, if_neg (by decide)] at b1
        exact b1
      · rw [if_neg (by decide), or_bit _ _ (by omega)]
        rw [hc, if_pos rfl] at b1
        exact b1
theorem c_which (hN1 : 1000 ≤ N) (W : Wp P n D mv) (Z : Ws st n D) (R : Wr nr q b) (hw : Wn n ns sh sm) (h : CR2 s p P n D mv nr q b st K) (hS : SnC s 37 ns sh sm sv) : ∃ s', fX11_which N 0 (mk s) = some (.inl (aWhich P K n D mv nr ns q b st sh sm sv), mk s') ∧ Fr cQ s s' := by
  have hr4 := R.1
  exact c_wh4 (N := N) (K := K) hN1 W Z R hw N 0 s (by omega) (by omega) h hS
theorem r_wh22 (hN1 : 1000 ≤ N) (W : Wp P n D mv) (Z : Ws st n D) (R : Wr nr q b) (hw : Wn n ns sh sm) (v : Nat) : ∀ (f i : Nat) (s : sg), nr - i < f → i ≤ nr → RU2 s P nr q b st K → SnR s ns sh sm sv → ∃ s', lX12_which_22 N f 419 (nI (v ||| whb (fun r => fitB (dBy P K n D mv q b (nI r) st) sh sm sv ns 0) i)) (nI i) (mk s) = some (.inl (nI (v ||| whb (fun r => fitB (dBy P K n D mv q b (nI r) st) sh sm sv ns 0) nr)), mk s') ∧ RU2 s' P nr q b st K ∧ Fr rS s s' := by
  have hr4 := R.1
  intro f
  induction f with
  | zero => intro i s hf; omega
  | succ f ih =>
    intro i s hf hi h hS
    show ∃ s', bX12_which_22 N (lX12_which_22 N f) 419 (nI (v ||| whb (fun r => fitB (dBy P K n D mv q b (nI r) st) sh sm sv ns 0) i)) (nI i) (mk s) = _ ∧ _
    unfold bX12_which_22 bX12_which_56
    simp (decide := true) only [ob_s, cS_l, cS_r, gI_k, gR_k, pI_k, pR_k, cV_k, aI_k, tI_k, rZ_0, rZ_1, rZ_i, rf_12_0, rf_12_1, rf_12_3, rf_12_4, rf_12_5, rf_12_6, rf_12_7, rf_12_8, rf_12_9, rf_12_10, rf_12_11, rf_12_12, rf_12_13, rf_12_14, rf_12_15, rf_12_26, rf_12_27, rf_12_31, rf_12_32, rf_12_33, rf_12_34, rf_12_41, rf_12_44, rf_12_47, rf_12_48, rf_12_49, rf_12_51, rf_12_55, rf_12_56, rf_12_57, rf_12_58, rf_12_59, rf_12_60, Nat.reduceAdd, kc_419, kc_420, kc_421, kc_422, kc_423, kc_424, kc_425, kc_426, kc_427, kc_428, kc_429, kc_430, kc_431, kc_432, kc_433, kc_434, kc_435, kc_436, kc_437, kc_438, kc_439, kc_440, kc_441, kc_442, kc_443, kc_444, kc_445, kc_446, kc_447, kc_448, kc_449, kc_450, kc_451, kc_452, kc_453, kn_420, kn_421, kn_422, kn_423, kn_424, kn_425, kn_426, kn_427, kn_428, kn_429, kn_430, kn_431, kn_432, kn_433, kn_434, kn_435, kn_436, kn_437, kn_438, kn_439, kn_440, kn_441, kn_442, kn_443, kn_444, kn_445, kn_446, kn_447, kn_448, kn_449, kn_450, kn_451, kn_452, kn_453, nc_4, h.2.2]
    by_cases c : nr ≤ i
    · rw [if_pos (nI_le c (by omega)), show i = nr by omega]
      exact ⟨s, rfl, h, Fr_r _ _⟩
    · rw [if_neg (nI_ge (by omega) (by omega))]
      obtain ⟨s1, a1, a2, a3, a4, a5⟩ := r_fits (N := N) (x := nI i) hN1 W Z R hw (Or.inr ⟨i, by omega, rfl⟩) h hS
      simp (decide := true) only [ob_s, cS_l, cS_r, gI_k, gR_k, pI_k, pR_k, cV_k, aI_k, tI_k, rZ_0, rZ_1, rZ_i, rf_12_0, rf_12_1, rf_12_3, rf_12_4, rf_12_5, rf_12_6, rf_12_7, rf_12_8, rf_12_9, rf_12_10, rf_12_11, rf_12_12, rf_12_13, rf_12_14, rf_12_15, rf_12_26, rf_12_27, rf_12_31, rf_12_32, rf_12_33, rf_12_34, rf_12_41, rf_12_44, rf_12_47, rf_12_48, rf_12_49, rf_12_51, rf_12_55, rf_12_56, rf_12_57, rf_12_58, rf_12_59, rf_12_60, Nat.reduceAdd, kc_419, kc_420, kc_421, kc_422, kc_423, kc_424, kc_425, kc_426, kc_427, kc_428, kc_429, kc_430, kc_431, kc_432, kc_433, kc_434, kc_435, kc_436, kc_437, kc_438, kc_439, kc_440, kc_441, kc_442, kc_443, kc_444, kc_445, kc_446, kc_447, kc_448, kc_449, kc_450, kc_451, kc_452, kc_453, kn_420, kn_421, kn_422, kn_423, kn_424, kn_425, kn_426, kn_427, kn_428, kn_429, kn_430, kn_431, kn_432, kn_433, kn_434, kn_435, kn_436, kn_437, kn_438, kn_439, kn_440, kn_441, kn_442, kn_443, kn_444, kn_445, kn_446, kn_447, kn_448, kn_449, kn_450, kn_451, kn_452, kn_453, a1, sk_0]
      unfold bX12_which_48
      obtain ⟨s2, b1, b2, b3⟩ := ih (i + 1) s1 (by omega) (by omega) a3 a4
      rw [whb_s] at b1
      rw [nI_1]
      refine ⟨s2, ?_, b2, Fr_t a5 b3⟩
      cases hc : fitB (dBy P K n D mv q b (nI i) st) sh sm sv ns 0
      · rw [if_pos rfl, Int32.or_zero]
        rw [hc, if_neg (by decide)] at b1
        exact b1
      · rw [if_neg (by decide), or_bit _ _ (by omega), Nat.or_assoc]
        rw [hc, if_pos rfl] at b1
        exact b1
theorem r_which (hN1 : 1000 ≤ N) (W : Wp P n D mv) (Z : Ws st n D) (R : Wr nr q b) (hw : Wn n ns sh sm) (h : RU2 s P nr q b st K) (hS : SnR s ns sh sm sv) : ∃ s', fX12_which N 419 (mk s) = some (.inl (aWhich P K n D mv nr ns q b st sh sm sv), mk s') ∧ RU2 s' P nr q b st K ∧ Fr rS s s' := by
  have hr4 := R.1
  have h8 := hw.1
  have f1 : Fr rQ s (sI s 419 2 0) := Fr_sI (by unfold rQ; omega)
  have hS1 : SnR (sI s 419 2 0) ns sh sm sv := ⟨(f1.1 _ _ (by unfold rQ; omega)).trans hS.1, fun i hi => ⟨(f1.1 _ _ (by unfold rQ; omega)).trans (hS.2 i hi).1, (f1.1 _ _ (by unfold rQ; omega)).trans (hS.2 i hi).2.1, (f1.1 _ _ (by unfold rQ; omega)).trans (hS.2 i hi).2.2⟩⟩
  obtain ⟨s1, a1, a2, a3, a4, a5⟩ := r_fits (N := N) (x := -1) hN1 W Z R hw (Or.inl rfl) (RU2_q h f1) hS1
  unfold fX12_which bX12_which_0 bX12_which_19
  simp (decide := true) only [ob_s, cS_l, cS_r, gI_k, gR_k, pI_k, pR_k, cV_k, aI_k, tI_k, rZ_0, rZ_1, rZ_i, rf_12_0, rf_12_1, rf_12_3, rf_12_4, rf_12_5, rf_12_6, rf_12_7, rf_12_8, rf_12_9, rf_12_10, rf_12_11, rf_12_12, rf_12_13, rf_12_14, rf_12_15, rf_12_26, rf_12_27, rf_12_31, rf_12_32, rf_12_33, rf_12_34, rf_12_41, rf_12_44, rf_12_47, rf_12_48, rf_12_49, rf_12_51, rf_12_55, rf_12_56, rf_12_57, rf_12_58, rf_12_59, rf_12_60, Nat.reduceAdd, kc_419, kc_420, kc_421, kc_422, kc_423, kc_424, kc_425, kc_426, kc_427, kc_428, kc_429, kc_430, kc_431, kc_432, kc_433, kc_434, kc_435, kc_436, kc_437, kc_438, kc_439, kc_440, kc_441, kc_442, kc_443, kc_444, kc_445, kc_446, kc_447, kc_448, kc_449, kc_450, kc_451, kc_452, kc_453, kn_420, kn_421, kn_422, kn_423, kn_424, kn_425, kn_426, kn_427, kn_428, kn_429, kn_430, kn_431, kn_432, kn_433, kn_434, kn_435, kn_436, kn_437, kn_438, kn_439, kn_440, kn_441, kn_442, kn_443, kn_444, kn_445, kn_446, kn_447, kn_448, kn_449, kn_450, kn_451, kn_452, kn_453, a1, sk_0]
  unfold aWhich
  cases fitB (dBy P K n D mv q b (-1) st) sh sm sv ns 0
  · rw [if_pos rfl, if_neg (by decide)]
    obtain ⟨s2, b1, b2, b3⟩ := r_wh22 (N := N) (K := K) hN1 W Z R hw 0 N 0 s1 (by omega) (by omega) a3 a4
    refine ⟨s2, ?_, b2, Fr_t (Fr_t (Fr_m f1 (fun y j => rQ_rS)) a5) b3⟩
    rw [Nat.zero_or] at b1
    rw [Nat.or_zero]
    have e : whb (fun r => fitB (dBy P K n D mv q b (nI r) st) sh sm sv ns 0) 0 = 0 := rfl
    rw [Nat.zero_or, e, nI0] at b1
    exact b1
  · rw [if_neg (by decide), if_pos rfl]
    obtain ⟨s2, b1, b2, b3⟩ := r_wh22 (N := N) (K := K) hN1 W Z R hw 16 N 0 s1 (by omega) (by omega) a3 a4
    refine ⟨s2, ?_, b2, Fr_t (Fr_t (Fr_m f1 (fun y j => rQ_rS)) a5) b3⟩
    have e : whb (fun r => fitB (dBy P K n D mv q b (nI r) st) sh sm sv ns 0) 0 = 0 := rfl
    rw [e, Nat.or_zero] at b1
    rw [Nat.or_comm]
    exact b1
end WH
