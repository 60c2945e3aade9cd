/- needs: 48.cruns -/
/-! days by rules: both sides' questions -/
section DQ
variable {N : Nat} {s : sg} {P : pln} {st : Nat → Int32} {K : Nat → Bool} {n D mv k m nr p a w : Nat} {q : Nat → Int32} {b : Nat → Nat} {x : Int32} {g : (Nat → Int32) → Nat → Int32}
theorem dRun_inv (W : Wp P n D mv) (I : dT → Prop) (hI : ∀ t, Ws t.1 n D → nowN t.1 < D → I t → I (dSt P K n D mv g t)) : ∀ (f : Nat) (t : dT), bnd P n D t.1 ≤ f → Ws t.1 n D → I t → I (dRun P K n D mv g t) := by
  intro f
  induction f with
  | zero =>
    intro t hb Z hi
    have c : ¬ nowN t.1 < D := fun q => by unfold bnd at hb; omega
    rw [dRun_e c]; exact hi
  | succ f ih =>
    intro t hb Z hi
    by_cases c : nowN t.1 < D
    · obtain ⟨Z', hb'⟩ := dSt_ok (K := K) (g := g) W Z c
      rw [dRun_s W Z c]
      exact ih _ (by omega) Z' (hI t Z c hi)
    · rw [dRun_e c]; exact hi
def hdN (t : dT) : Nat := t.2.1.toNatClampNeg
theorem dBy_hd (W : Wp P n D mv) (Z : Ws st n D) : (dBy P K n D mv q b x st).2.1 = nI (hdN (dBy P K n D mv q b x st)) ∧ hdN (dBy P K n D mv q b x st) < 2 ^ n := by
  have hn8 := W.1
  have hp8 := pn8 hn8
  have key : ∃ h, h < 2 ^ n ∧ (dBy P K n D mv q b x st).2.1 = nI h := by
    refine dRun_inv (K := K) (g := gvl P K D q b x) W (fun t => ∃ h, h < 2 ^ n ∧ t.2.1 = nI h) (fun t Zt hm hi => ?_) _ (t0 st) (Nat.le_refl _) Z ⟨0, Nat.two_pow_pos n, rfl⟩
    obtain ⟨h, h1, h2⟩ := hi
    unfold dSt
    rcases dPk_c (g := gvl P K D q b x) (K := K) W Zt hm with hq | ⟨k, hk, hq, hmk, hwy⟩
    · rw [if_pos hq]
      unfold dGo
      split
      · exact ⟨h, h1, h2⟩
      · exact ⟨h, h1, h2⟩
    · rw [hq, if_neg (m1_ne (by omega)), nI_clamp (by omega)]
      unfold dTk
      split
      · refine ⟨h ||| 2 ^ k, Nat.or_lt_two_pow h1 (Nat.pow_lt_pow_right (by omega) hk), ?_⟩
        show t.2.1 ||| _ = _
        rw [h2, or_bit _ _ (by omega)]
      · exact ⟨h, h1, h2⟩
  obtain ⟨h, h1, h2⟩ := key
  have e : hdN (dBy P K n D mv q b x st) = h := by unfold hdN; rw [h2, nI_clamp (by omega)]
  rw [e]
  exact ⟨h2, h1⟩
/-- how many a day gives, its film -/
def dNo (P : pln) (K : Nat → Bool) (n D mv : Nat) (q : Nat → Int32) (b : Nat → Nat) (x : Int32) (st : Nat → Int32) : Nat := pcf (hdN (dBy P K n D mv q b x st))
def dFm (P : pln) (K : Nat → Bool) (n D mv : Nat) (q : Nat → Int32) (b : Nat → Nat) (x : Int32) (st : Nat → Int32) : Int32 := (dBy P K n D mv q b x st).1 4 - st 4
def aDay (P : pln) (K : Nat → Bool) (n D mv : Nat) (q : Nat → Int32) (b : Nat → Nat) (x : Int32) (st : Nat → Int32) (w : Nat) : Int32 := if w = 0 then nI (dNo P K n D mv q b x st) else if w = 1 then dFm P K n D mv q b x st else if w = 2 then (dBy P K n D mv q b x st).2.2.2.1 else if w = 3 then (dBy P K n D mv q b x st).2.2.2.2.1 else (dBy P K n D mv q b x st).2.1
/-- the class with its rules -/
def CR2 (s : sg) (p : Nat) (P : pln) (n D mv nr : Nat) (q : Nat → Int32) (b : Nat → Nat) (st : Nat → Int32) (K : Nat → Bool) : Prop := CQ s p P n D mv st K ∧ CRl s (p + 4) nr q b
theorem dQ_cQ {y j : Nat} (hp : plA p) (h : dQ p y j) : cQ y j := by
  unfold dQ at h
  unfold cQ
  rcases hp with rfl | rfl <;> omega
theorem CR2_fr {s' : sg} (h : CR2 s p P n D mv nr q b st K) (hn : n ≤ 8) (f : Fr cQ s s') : CR2 s' p P n D mv nr q b st K := by
  refine ⟨CQ_fr h.1 hn f, ?_⟩
  rcases h.1.1 with rfl | rfl
  · exact CRl_fr h.2 f (by unfold cQ; omega) (fun j => by unfold cQ; omega) (fun j => by unfold cQ; omega)
  · exact CRl_fr h.2 f (by unfold cQ; omega) (fun j => by unfold cQ; omega) (fun j => by unfold cQ; omega)
theorem c_runsQ (hN1 : 1000 ≤ N) (W : Wp P n D mv) (Z : Ws st n D) (R : Wr nr q b) (hx : isRl nr x) (h : CR2 s p P n D mv nr q b st K) : ∃ s', fX0_runs N 384 p 38 x (mk s) = some (.inl (), mk s') ∧ CDy s' (dBy P K n D mv q b x st) (dFm P K n D mv q b x st) ∧ Fr cQ s s' := by
  obtain ⟨s', a1, a2, a3⟩ := c_runs (N := N) (a := 38) hN1 W Z R h.1.1 (Or.inl rfl) hx h.1.2.2.1 h.2 h.1.2.2.2
  exact ⟨s', a1, a2, Fr_m a3 (fun y j => dQ_cQ h.1.1)⟩
theorem c_reqRule (R : Wr nr q b) (h : CR2 s p P n D mv nr q b st K) (hx : isRl nr x) : fX11_requireRule N 0 x (mk s) = some (.inl (), mk s) := by
  have hpO := plA_O h.1.1
  have hrO := plA_r h.1.1
  have hr4 := R.1
  unfold fX11_requireRule bX11_requireRule_0
  have n1 : ¬ x < -1 := by
    rcases hx with rfl | ⟨r, hr, rfl⟩
    · decide
    · exact fun g => by
        have := m1_lt (show r < 2 ^ 31 by omega)
        rw [i32_lt] at g this
        omega
  have n2 : x < nI nr := by
    rcases hx with rfl | ⟨r, hr, rfl⟩
    · exact m1_lt (by omega)
    · exact nI_lt hr (by omega)
  rw [if_neg n1]
  simp (decide := true) only [ob_s, cS_l, cS_r, gI_k, gR_k, pI_k, pR_k, cV_k, aI_k, tI_k, rZ_0, rZ_1, rZ_i, aR_24, aR_25, aZ_k, tZ_k, rf_3_6, rf_3_7, rf_3_8, rf_5_0, rf_5_1, rf_5_3, rf_5_4, rf_5_5, rf_5_7, rf_6_4, rf_6_11, rf_1_0, rf_1_1, rf_0_6, rf_9_7, rf_9_8, rf_8_0, rf_11_0, rf_11_5, rf_11_6, rf_11_7, rf_11_9, rf_11_10, rf_11_11, rf_11_12, rf_11_3, rf_11_4, Nat.reduceAdd, Nat.zero_add, kc_0, kc_1, kc_34, kc_35, kc_36, kc_37, kc_38, kc_39, kc_40, kc_41, kc_42, kc_43, kc_44, kc_45, kc_46, kc_207, kc_208, kc_209, kc_210, kc_211, kc_212, kc_213, kc_214, kc_215, kc_216, kc_377, kc_378, kc_379, kc_380, kc_381, kc_382, kc_383, kc_384, kc_385, kc_386, kc_387, kc_388, kc_389, kc_390, kc_391, kc_392, kc_393, kc_394, kc_395, kc_414, kc_415, kc_416, kc_417, kc_418, kn_1, kn_36, kn_39, kn_41, kn_42, kn_43, kn_44, kn_45, kn_46, kn_209, kn_211, kn_212, kn_213, kn_214, kn_215, kn_216, kn_378, kn_380, kn_382, kn_383, kn_385, kn_386, kn_388, kn_390, kn_392, kn_393, kn_395, kn_414, kn_415, kn_417, kn_418, h.1.2.1, hpO.1, hrO.1, h.2.1]
  rw [if_pos n2]
theorem c_reqRule' (R : Wr nr q b) (h : CR2 s p P n D mv nr q b st K) (hx : ¬ isRl nr x) : fX11_requireRule N 0 x (mk s) = some (.inr 1, mk s) := by
  have hpO := plA_O h.1.1
  have hrO := plA_r h.1.1
  have hr4 := R.1
  unfold fX11_requireRule bX11_requireRule_0 bX11_requireRule_19
  by_cases c : x < -1
  · rw [if_pos c]
  · rw [if_neg c]
    simp (decide := true) only [ob_s, cS_l, cS_r, gI_k, gR_k, pI_k, pR_k, cV_k, aI_k, tI_k, rZ_0, rZ_1, rZ_i, aR_24, aR_25, aZ_k, tZ_k, rf_3_6, rf_3_7, rf_3_8, rf_5_0, rf_5_1, rf_5_3, rf_5_4, rf_5_5, rf_5_7, rf_6_4, rf_6_11, rf_1_0, rf_1_1, rf_0_6, rf_9_7, rf_9_8, rf_8_0, rf_11_0, rf_11_5, rf_11_6, rf_11_7, rf_11_9, rf_11_10, rf_11_11, rf_11_12, rf_11_3, rf_11_4, Nat.reduceAdd, Nat.zero_add, kc_0, kc_1, kc_34, kc_35, kc_36, kc_37, kc_38, kc_39, kc_40, kc_41, kc_42, kc_43, kc_44, kc_45, kc_46, kc_207, kc_208, kc_209, kc_210, kc_211, kc_212, kc_213, kc_214, kc_215, kc_216, kc_377, kc_378, kc_379, kc_380, kc_381, kc_382, kc_383, kc_384, kc_385, kc_386, kc_387, kc_388, kc_389, kc_390, kc_391, kc_392, kc_393, kc_394, kc_395, kc_414, kc_415, kc_416, kc_417, kc_418, kn_1, kn_36, kn_39, kn_41, kn_42, kn_43, kn_44, kn_45, kn_46, kn_209, kn_211, kn_212, kn_213, kn_214, kn_215, kn_216, kn_378, kn_380, kn_382, kn_383, kn_385, kn_386, kn_388, kn_390, kn_392, kn_393, kn_395, kn_414, kn_415, kn_417, kn_418, h.1.2.1, hpO.1, hrO.1, h.2.1]
    rw [if_neg]
    intro c2
    apply hx
    by_cases c0 : x < 0
    · left
      rw [i32_lt] at c c0
      have e1 : (-1 : Int32).toInt = -1 := by decide
      have e0 : (0 : Int32).toInt = 0 := by decide
      apply Int32.toInt_inj.mp
      omega
    · obtain ⟨r, hr, rfl⟩ := nI_of c0
      exact Or.inr ⟨r, (nI_ltI hr (by omega)).mp c2, rfl⟩
theorem r_isRule (R : Wr nr q b) (hr : s.1 422 4 = nI nr) (hx : isRl nr x) : fX12_isRule N 419 x (mk (sI s 419 2 0)) = some (.inl 1, mk (sI s 419 2 0)) := by
  have hr4 := R.1
  rw [m_isRule]
  simp only [sI_c, Nat.reduceEqDiff, false_and, if_false]
  rw [hr, sb_pos]
  have e1 : (-1 : Int32).toInt = -1 := by decide
  have en : (nI nr - 1).toInt = (nr : Int) - 1 := by
    cases nr with
    | zero => decide
    | succ m => rw [nI_pred, nI_toInt (by omega)]; omega
  rw [i32_le, i32_le, en, e1]
  rcases hx with rfl | ⟨r, hr, rfl⟩
  · rw [e1]; omega
  · rw [nI_toInt (by omega)]; omega
theorem r_isRule' (R : Wr nr q b) (hr : s.1 422 4 = nI nr) (hx : ¬ isRl nr x) : fX12_isRule N 419 x (mk (sI s 419 2 0)) = some (.inl 0, mk (sI s 419 2 0)) := by
  have hr4 := R.1
  rw [m_isRule]
  simp only [sI_c, Nat.reduceEqDiff, false_and, if_false]
  rw [hr, sb_neg]
  rintro ⟨h1, h2⟩
  apply hx
  have e1 : (-1 : Int32).toInt = -1 := by decide
  have e0 : (0 : Int32).toInt = 0 := by decide
  have en : (nI nr - 1).toInt = (nr : Int) - 1 := by
    cases nr with
    | zero => decide
    | succ m => rw [nI_pred, nI_toInt (by omega)]; omega
  rw [i32_le, e1] at h1
  rw [i32_le, en] at h2
  by_cases c0 : x < 0
  · left
    rw [i32_lt, e0] at c0
    apply Int32.toInt_inj.mp
    omega
  · obtain ⟨r, hr, rfl⟩ := nI_of c0
    rw [nI_toInt hr] at h2
    exact Or.inr ⟨r, by omega, rfl⟩
theorem c_day (hN1 : 1000 ≤ N) (W : Wp P n D mv) (Z : Ws st n D) (R : Wr nr q b) (hx : isRl nr x) (h : CR2 s p P n D mv nr q b st K) (hw : w ≤ 4) : ∃ s', fX11_day N 0 x (nI w) (mk s) = some (.inl (aDay P K n D mv q b x st w), mk s') ∧ Fr cQ s s' := by
  have hp8 := pn8 W.1
  obtain ⟨s1, a1, a2, a3⟩ := c_runsQ (N := N) hN1 W Z R hx h
  obtain ⟨d1, d2⟩ := dBy_hd (K := K) (q := q) (b := b) (x := x) W Z
  refine ⟨s1, ?_, a3⟩
  have hq := c_reqWhat (N := N) (s := s) (l := 4) hw (by omega)
  rw [show nI 4 = (4 : Int32) from rfl] at hq
  have e0 : s1.1 384 0 = nI (hdN (dBy P K n D mv q b x st)) := a2.1.trans d1
  unfold fX11_day bX11_day_0
  simp (decide := true) only [ob_s, cS_l, cS_r, gI_k, gR_k, pI_k, pR_k, cV_k, aI_k, tI_k, rZ_0, rZ_1, rZ_i, aR_24, aR_25, aZ_k, tZ_k, rf_3_6, rf_3_7, rf_3_8, rf_5_0, rf_5_1, rf_5_3, rf_5_4, rf_5_5, rf_5_7, rf_6_4, rf_6_11, rf_1_0, rf_1_1, rf_0_6, rf_9_7, rf_9_8, rf_8_0, rf_11_0, rf_11_5, rf_11_6, rf_11_7, rf_11_9, rf_11_10, rf_11_11, rf_11_12, rf_11_3, rf_11_4, Nat.reduceAdd, Nat.zero_add, kc_0, kc_1, kc_34, kc_35, kc_36, kc_37, kc_38, kc_39, kc_40, kc_41, kc_42, kc_43, kc_44, kc_45, kc_46, kc_207, kc_208, kc_209, kc_210, kc_211, kc_212, kc_213, kc_214, kc_215, kc_216, kc_377, kc_378, kc_379, kc_380, kc_381, kc_382, kc_383, kc_384, kc_385, kc_386, kc_387, kc_388, kc_389, kc_390, kc_391, kc_392, kc_393, kc_394, kc_395, kc_414, kc_415, kc_416, kc_417, kc_418, kn_1, kn_36, kn_39, kn_41, kn_42, kn_43, kn_44, kn_45, kn_46, kn_209, kn_211, kn_212, kn_213, kn_214, kn_215, kn_216, kn_378, kn_380, kn_382, kn_383, kn_385, kn_386, kn_388, kn_390, kn_392, kn_393, kn_395, kn_414, kn_415, kn_417, kn_418, c_reqRule R h hx, hq, h.1.2.1, a1, e0, j_bits _ (show hdN (dBy P K n D mv q b x st) < 256 by omega), a2.2.2.1, a2.2.2.2.1, a2.2.2.2.2.1]
  unfold aDay dNo
  rcases (show w = 0 ∨ w = 1 ∨ w = 2 ∨ w = 3 ∨ w = 4 by omega) with rfl | rfl | rfl | rfl | rfl <;> simp (decide := true)
  rw [d1]
theorem c_day' {y : Int32} (R : Wr nr q b) (h : CR2 s p P n D mv nr q b st K) (hxy : ¬ isRl nr x ∨ isRl nr x ∧ (y < 0 ∨ (¬ y < 0 ∧ nI 5 ≤ y))) : fX11_day N 0 x y (mk s) = some (.inr 1, mk s) := by
  unfold fX11_day bX11_day_0
  rcases hxy with hx | ⟨hx, hy⟩
  · simp (decide := true) only [ob_s, cS_l, cS_r, gI_k, gR_k, pI_k, pR_k, cV_k, aI_k, tI_k, rZ_0, rZ_1, rZ_i, aR_24, aR_25, aZ_k, tZ_k, rf_3_6, rf_3_7, rf_3_8, rf_5_0, rf_5_1, rf_5_3, rf_5_4, rf_5_5, rf_5_7, rf_6_4, rf_6_11, rf_1_0, rf_1_1, rf_0_6, rf_9_7, rf_9_8, rf_8_0, rf_11_0, rf_11_5, rf_11_6, rf_11_7, rf_11_9, rf_11_10, rf_11_11, rf_11_12, rf_11_3, rf_11_4, Nat.reduceAdd, Nat.zero_add, kc_0, kc_1, kc_34, kc_35, kc_36, kc_37, kc_38, kc_39, kc_40, kc_41, kc_42, kc_43, kc_44, kc_45, kc_46, kc_207, kc_208, kc_209, kc_210, kc_211, kc_212, kc_213, kc_214, kc_215, kc_216, kc_377, kc_378, kc_379, kc_380, kc_381, kc_382, kc_383, kc_384, kc_385, kc_386, kc_387, kc_388, kc_389, kc_390, kc_391, kc_392, kc_393, kc_394, kc_395, kc_414, kc_415, kc_416, kc_417, kc_418, kn_1, kn_36, kn_39, kn_41, kn_42, kn_43, kn_44, kn_45, kn_46, kn_209, kn_211, kn_212, kn_213, kn_214, kn_215, kn_216, kn_378, kn_380, kn_382, kn_383, kn_385, kn_386, kn_388, kn_390, kn_392, kn_393, kn_395, kn_414, kn_415, kn_417, kn_418, c_reqRule' R h hx]
  · have hq := c_reqWhat' (N := N) (s := s) (l := 4) hy (by omega)
    rw [show nI 4 = (4 : Int32) from rfl] at hq
    simp (decide := true) only [ob_s, cS_l, cS_r, gI_k, gR_k, pI_k, pR_k, cV_k, aI_k, tI_k, rZ_0, rZ_1, rZ_i, aR_24, aR_25, aZ_k, tZ_k, rf_3_6, rf_3_7, rf_3_8, rf_5_0, rf_5_1, rf_5_3, rf_5_4, rf_5_5, rf_5_7, rf_6_4, rf_6_11, rf_1_0, rf_1_1, rf_0_6, rf_9_7, rf_9_8, rf_8_0, rf_11_0, rf_11_5, rf_11_6, rf_11_7, rf_11_9, rf_11_10, rf_11_11, rf_11_12, rf_11_3, rf_11_4, Nat.reduceAdd, Nat.zero_add, kc_0, kc_1, kc_34, kc_35, kc_36, kc_37, kc_38, kc_39, kc_40, kc_41, kc_42, kc_43, kc_44, kc_45, kc_46, kc_207, kc_208, kc_209, kc_210, kc_211, kc_212, kc_213, kc_214, kc_215, kc_216, kc_377, kc_378, kc_379, kc_380, kc_381, kc_382, kc_383, kc_384, kc_385, kc_386, kc_387, kc_388, kc_389, kc_390, kc_391, kc_392, kc_393, kc_394, kc_395, kc_414, kc_415, kc_416, kc_417, kc_418, kn_1, kn_36, kn_39, kn_41, kn_42, kn_43, kn_44, kn_45, kn_46, kn_209, kn_211, kn_212, kn_213, kn_214, kn_215, kn_216, kn_378, kn_380, kn_382, kn_383, kn_385, kn_386, kn_388, kn_390, kn_392, kn_393, kn_395, kn_414, kn_415, kn_417, kn_418, c_reqRule R h hx, hq]
/-- the reference with its rules -/
def RU2 (s : sg) (P : pln) (nr : Nat) (q : Nat → Int32) (b : Nat → Nat) (st : Nat → Int32) (K : Nat → Bool) : Prop := RU s P st K ∧ RR s nr q b ∧ s.1 422 4 = nI nr
theorem RU2_q {s' : sg} (h : RU2 s P nr q b st K) (f : Fr rQ s s') : RU2 s' P nr q b st K := ⟨RU_fr h.1 f, RR_fr h.2.1 f (fun y j g1 g2 => by unfold rQ; omega), (f.1 _ _ (by unfold rQ; omega)).trans h.2.2⟩
theorem RU2_s {s' : sg} (h : RU2 s P nr q b st K) (f : Fr rS s s') (hu : RU s' P st K) : RU2 s' P nr q b st K := ⟨hu, RR_frS h.2.1 f, (f.1 _ _ (by unfold rS rQ; omega)).trans h.2.2⟩
theorem r_day (hN1 : 1000 ≤ N) (W : Wp P n D mv) (Z : Ws st n D) (R : Wr nr q b) (hx : isRl nr x) (h : RU2 s P nr q b st K) (hw : w ≤ 4) : ∃ s', fX12_day N 419 x (nI w) (mk s) = some (.inl (aDay P K n D mv q b x st w), mk s') ∧ s'.1 419 2 = 0 ∧ RU2 s' P nr q b st K ∧ Fr rS s s' := by
  have hp8 := pn8 W.1
  have f1 : Fr rQ s (sI s 419 2 0) := Fr_sI (by unfold rQ; omega)
  have h1 := RU2_q h f1
  obtain ⟨s1, a1, a2, a3, a4, a5, a6⟩ := r_dayBy (N := N) hN1 W Z R hx h1.1 h1.2.1
  obtain ⟨d1, d2⟩ := dBy_hd (K := K) (q := q) (b := b) (x := x) W Z
  refine ⟨s1, ?_, a5.trans (by simp [sI_c]), RU2_s h1 a6 (RV_U a4), Fr_t (Fr_m f1 (fun y j => rQ_rS)) a6⟩
  have e0 : s1.1 419 35 = nI (hdN (dBy P K n D mv q b x st)) := a2.1.trans d1
  have hin : sb (0 ≤ nI w ∧ nI w ≤ nI 4) = 1 := sb_pos ((in_rng (by omega)).mpr ⟨w, hw, rfl⟩)
  unfold fX12_day bX12_day_0
  simp (decide := true) only [ob_s, cS_l, cS_r, gI_k, gR_k, pI_k, pR_k, cV_k, aI_k, tI_k, rZ_0, rZ_1, rZ_i, rf_12_0, rf_12_1, rf_12_3, rf_12_4, rf_12_5, rf_12_6, rf_12_7, rf_12_8, rf_12_9, rf_12_10, rf_12_11, rf_12_12, rf_12_13, rf_12_14, rf_12_15, rf_12_26, rf_12_27, rf_12_31, rf_12_32, rf_12_33, rf_12_34, rf_12_41, rf_12_44, rf_12_47, rf_12_48, rf_12_49, rf_12_51, rf_12_55, rf_12_56, rf_12_57, rf_12_58, rf_12_59, rf_12_60, Nat.reduceAdd, kc_419, kc_420, kc_421, kc_422, kc_423, kc_424, kc_425, kc_426, kc_427, kc_428, kc_429, kc_430, kc_431, kc_432, kc_433, kc_434, kc_435, kc_436, kc_437, kc_438, kc_439, kc_440, kc_441, kc_442, kc_443, kc_444, kc_445, kc_446, kc_447, kc_448, kc_449, kc_450, kc_451, kc_452, kc_453, kn_420, kn_421, kn_422, kn_423, kn_424, kn_425, kn_426, kn_427, kn_428, kn_429, kn_430, kn_431, kn_432, kn_433, kn_434, kn_435, kn_436, kn_437, kn_438, kn_439, kn_440, kn_441, kn_442, kn_443, kn_444, kn_445, kn_446, kn_447, kn_448, kn_449, kn_450, kn_451, kn_452, kn_453, r_isRule R h.2.2 hx, if_false, m_isIn0 N _ (nI w) 4 4 rfl, hin, if_true, a1, e0, m_bits hN1 (show hdN (dBy P K n D mv q b x st) < 256 by omega), a3, a2.2.2.1, a2.2.2.2.1]
  unfold aDay dNo dFm
  rcases (show w = 0 ∨ w = 1 ∨ w = 2 ∨ w = 3 ∨ w = 4 by omega) with rfl | rfl | rfl | rfl | rfl <;> simp (decide := true)
  rw [d1]
theorem r_day' {y : Int32} (R : Wr nr q b) (h : RU2 s P nr q b st K) (hxy : ¬ isRl nr x ∨ isRl nr x ∧ ¬ (0 ≤ y ∧ y ≤ nI 4)) : fX12_day N 419 x y (mk s) = some (.inl 0, mk (sI (sI s 419 2 0) 419 2 1)) := by
  unfold fX12_day bX12_day_0 bX12_day_25
  rcases hxy with hx | ⟨hx, hy⟩
  · simp (decide := true) only [ob_s, cS_l, cS_r, gI_k, gR_k, pI_k, pR_k, cV_k, aI_k, tI_k, rZ_0, rZ_1, rZ_i, rf_12_0, rf_12_1, rf_12_3, rf_12_4, rf_12_5, rf_12_6, rf_12_7, rf_12_8, rf_12_9, rf_12_10, rf_12_11, rf_12_12, rf_12_13, rf_12_14, rf_12_15, rf_12_26, rf_12_27, rf_12_31, rf_12_32, rf_12_33, rf_12_34, rf_12_41, rf_12_44, rf_12_47, rf_12_48, rf_12_49, rf_12_51, rf_12_55, rf_12_56, rf_12_57, rf_12_58, rf_12_59, rf_12_60, Nat.reduceAdd, kc_419, kc_420, kc_421, kc_422, kc_423, kc_424, kc_425, kc_426, kc_427, kc_428, kc_429, kc_430, kc_431, kc_432, kc_433, kc_434, kc_435, kc_436, kc_437, kc_438, kc_439, kc_440, kc_441, kc_442, kc_443, kc_444, kc_445, kc_446, kc_447, kc_448, kc_449, kc_450, kc_451, kc_452, kc_453, kn_420, kn_421, kn_422, kn_423, kn_424, kn_425, kn_426, kn_427, kn_428, kn_429, kn_430, kn_431, kn_432, kn_433, kn_434, kn_435, kn_436, kn_437, kn_438, kn_439, kn_440, kn_441, kn_442, kn_443, kn_444, kn_445, kn_446, kn_447, kn_448, kn_449, kn_450, kn_451, kn_452, kn_453, r_isRule' R h.2.2 hx, r_bad1, if_true]
  · simp (decide := true) only [ob_s, cS_l, cS_r, gI_k, gR_k, pI_k, pR_k, cV_k, aI_k, tI_k, rZ_0, rZ_1, rZ_i, rf_12_0, rf_12_1, rf_12_3, rf_12_4, rf_12_5, rf_12_6, rf_12_7, rf_12_8, rf_12_9, rf_12_10, rf_12_11, rf_12_12, rf_12_13, rf_12_14, rf_12_15, rf_12_26, rf_12_27, rf_12_31, rf_12_32, rf_12_33, rf_12_34, rf_12_41, rf_12_44, rf_12_47, rf_12_48, rf_12_49, rf_12_51, rf_12_55, rf_12_56, rf_12_57, rf_12_58, rf_12_59, rf_12_60, Nat.reduceAdd, kc_419, kc_420, kc_421, kc_422, kc_423, kc_424, kc_425, kc_426, kc_427, kc_428, kc_429, kc_430, kc_431, kc_432, kc_433, kc_434, kc_435, kc_436, kc_437, kc_438, kc_439, kc_440, kc_441, kc_442, kc_443, kc_444, kc_445, kc_446, kc_447, kc_448, kc_449, kc_450, kc_451, kc_452, kc_453, kn_420, kn_421, kn_422, kn_423, kn_424, kn_425, kn_426, kn_427, kn_428, kn_429, kn_430, kn_431, kn_432, kn_433, kn_434, kn_435, kn_436, kn_437, kn_438, kn_439, kn_440, kn_441, kn_442, kn_443, kn_444, kn_445, kn_446, kn_447, kn_448, kn_449, kn_450, kn_451, kn_452, kn_453, r_isRule R h.2.2 hx, if_false, m_isIn0 N _ y 4 4 rfl, sb_neg hy, r_bad1]
def aIdle (t : dT) (w : Nat) : Int32 := if w = 0 then t.2.2.2.2.2.1 else t.2.2.2.2.2.2
theorem c_idle (hN1 : 1000 ≤ N) (W : Wp P n D mv) (Z : Ws st n D) (R : Wr nr q b) (hx : isRl nr x) (h : CR2 s p P n D mv nr q b st K) (hw : w ≤ 1) : ∃ s', fX11_idle N 0 x (nI w) (mk s) = some (.inl (aIdle (dBy P K n D mv q b x st) w), mk s') ∧ Fr cQ s s' := by
  obtain ⟨s1, a1, a2, a3⟩ := c_runsQ (N := N) hN1 W Z R hx h
  refine ⟨s1, ?_, a3⟩
  have hq := c_reqWhat (N := N) (s := s) (l := 1) hw (by omega)
  rw [show nI 1 = (1 : Int32) from rfl] at hq
  unfold fX11_idle bX11_idle_0
  simp (decide := true) only [ob_s, cS_l, cS_r, gI_k, gR_k, pI_k, pR_k, cV_k, aI_k, tI_k, rZ_0, rZ_1, rZ_i, aR_24, aR_25, aZ_k, tZ_k, rf_3_6, rf_3_7, rf_3_8, rf_5_0, rf_5_1, rf_5_3, rf_5_4, rf_5_5, rf_5_7, rf_6_4, rf_6_11, rf_1_0, rf_1_1, rf_0_6, rf_9_7, rf_9_8, rf_8_0, rf_11_0, rf_11_5, rf_11_6, rf_11_7, rf_11_9, rf_11_10, rf_11_11, rf_11_12, rf_11_3, rf_11_4, Nat.reduceAdd, Nat.zero_add, kc_0, kc_1, kc_34, kc_35, kc_36, kc_37, kc_38, kc_39, kc_40, kc_41, kc_42, kc_43, kc_44, kc_45, kc_46, kc_207, kc_208, kc_209, kc_210, kc_211, kc_212, kc_213, kc_214, kc_215, kc_216, kc_377, kc_378, kc_379, kc_380, kc_381, kc_382, kc_383, kc_384, kc_385, kc_386, kc_387, kc_388, kc_389, kc_390, kc_391, kc_392, kc_393, kc_394, kc_395, kc_414, kc_415, kc_416, kc_417, kc_418, kn_1, kn_36, kn_39, kn_41, kn_42, kn_43, kn_44, kn_45, kn_46, kn_209, kn_211, kn_212, kn_213, kn_214, kn_215, kn_216, kn_378, kn_380, kn_382, kn_383, kn_385, kn_386, kn_388, kn_390, kn_392, kn_393, kn_395, kn_414, kn_415, kn_417, kn_418, c_reqRule R h hx, hq, h.1.2.1, a1, a2.2.2.2.2.2.1, a2.2.2.2.2.2.2]
  unfold aIdle
  rcases (show w = 0 ∨ w = 1 by omega) with rfl | rfl <;> simp (decide := true)
theorem c_idle' {y : Int32} (R : Wr nr q b) (h : CR2 s p P n D mv nr q b st K) (hxy : ¬ isRl nr x ∨ isRl nr x ∧ (y < 0 ∨ (¬ y < 0 ∧ nI 2 ≤ y))) : fX11_idle N 0 x y (mk s) = some (.inr 1, mk s) := by
  unfold fX11_idle bX11_idle_0
  rcases hxy with hx | ⟨hx, hy⟩
  · simp (decide := true) only [ob_s, cS_l, cS_r, gI_k, gR_k, pI_k, pR_k, cV_k, aI_k, tI_k, rZ_0, rZ_1, rZ_i, aR_24, aR_25, aZ_k, tZ_k, rf_3_6, rf_3_7, rf_3_8, rf_5_0, rf_5_1, rf_5_3, rf_5_4, rf_5_5, rf_5_7, rf_6_4, rf_6_11, rf_1_0, rf_1_1, rf_0_6, rf_9_7, rf_9_8, rf_8_0, rf_11_0, rf_11_5, rf_11_6, rf_11_7, rf_11_9, rf_11_10, rf_11_11, rf_11_12, rf_11_3, rf_11_4, Nat.reduceAdd, Nat.zero_add, kc_0, kc_1, kc_34, kc_35, kc_36, kc_37, kc_38, kc_39, kc_40, kc_41, kc_42, kc_43, kc_44, kc_45, kc_46, kc_207, kc_208, kc_209, kc_210, kc_211, kc_212, kc_213, kc_214, kc_215, kc_216, kc_377, kc_378, kc_379, kc_380, kc_381, kc_382, kc_383, kc_384, kc_385, kc_386, kc_387, kc_388, kc_389, kc_390, kc_391, kc_392, kc_393, kc_394, kc_395, kc_414, kc_415, kc_416, kc_417, kc_418, kn_1, kn_36, kn_39, kn_41, kn_42, kn_43, kn_44, kn_45, kn_46, kn_209, kn_211, kn_212, kn_213, kn_214, kn_215, kn_216, kn_378, kn_380, kn_382, kn_383, kn_385, kn_386, kn_388, kn_390, kn_392, kn_393, kn_395, kn_414, kn_415, kn_417, kn_418, c_reqRule' R h hx]
  · have hq := c_reqWhat' (N := N) (s := s) (l := 1) hy (by omega)
    rw [show nI 1 = (1 : Int32) from rfl] at hq
    simp (decide := true) only [ob_s, cS_l, cS_r, gI_k, gR_k, pI_k, pR_k, cV_k, aI_k, tI_k, rZ_0, rZ_1, rZ_i, aR_24, aR_25, aZ_k, tZ_k, rf_3_6, rf_3_7, rf_3_8, rf_5_0, rf_5_1, rf_5_3, rf_5_4, rf_5_5, rf_5_7, rf_6_4, rf_6_11, rf_1_0, rf_1_1, rf_0_6, rf_9_7, rf_9_8, rf_8_0, rf_11_0, rf_11_5, rf_11_6, rf_11_7, rf_11_9, rf_11_10, rf_11_11, rf_11_12, rf_11_3, rf_11_4, Nat.reduceAdd, Nat.zero_add, kc_0, kc_1, kc_34, kc_35, kc_36, kc_37, kc_38, kc_39, kc_40, kc_41, kc_42, kc_43, kc_44, kc_45, kc_46, kc_207, kc_208, kc_209, kc_210, kc_211, kc_212, kc_213, kc_214, kc_215, kc_216, kc_377, kc_378, kc_379, kc_380, kc_381, kc_382, kc_383, kc_384, kc_385, kc_386, kc_387, kc_388, kc_389, kc_390, kc_391, kc_392, kc_393, kc_394, kc_395, kc_414, kc_415, kc_416, kc_417, kc_418, kn_1, kn_36, kn_39, kn_41, kn_42, kn_43, kn_44, kn_45, kn_46, kn_209, kn_211, kn_212, kn_213, kn_214, kn_215, kn_216, kn_378, kn_380, kn_382, kn_383, kn_385, kn_386, kn_388, kn_390, kn_392, kn_393, kn_395, kn_414, kn_415, kn_417, kn_418, c_reqRule R h hx, hq]
theorem r_idle (hN1 : 1000 ≤ N) (W : Wp P n D mv) (Z : Ws st n D) (R : Wr nr q b) (hx : isRl nr x) (h : RU2 s P nr q b st K) (hw : w ≤ 1) : ∃ s', fX12_idle N 419 x (nI w) (mk s) = some (.inl (aIdle (dBy P K n D mv q b x st) w), mk s') ∧ s'.1 419 2 = 0 ∧ RU2 s' P nr q b st K ∧ Fr rS s s' := by
  have f1 : Fr rQ s (sI s 419 2 0) := Fr_sI (by unfold rQ; omega)
  have h1 := RU2_q h f1
  obtain ⟨s1, a1, a2, a3, a4, a5, a6⟩ := r_dayBy (N := N) hN1 W Z R hx h1.1 h1.2.1
  refine ⟨s1, ?_, a5.trans (by simp [sI_c]), RU2_s h1 a6 (RV_U a4), Fr_t (Fr_m f1 (fun y j => rQ_rS)) a6⟩
  unfold fX12_idle bX12_idle_0
  simp (decide := true) only [ob_s, cS_l, cS_r, gI_k, gR_k, pI_k, pR_k, cV_k, aI_k, tI_k, rZ_0, rZ_1, rZ_i, rf_12_0, rf_12_1, rf_12_3, rf_12_4, rf_12_5, rf_12_6, rf_12_7, rf_12_8, rf_12_9, rf_12_10, rf_12_11, rf_12_12, rf_12_13, rf_12_14, rf_12_15, rf_12_26, rf_12_27, rf_12_31, rf_12_32, rf_12_33, rf_12_34, rf_12_41, rf_12_44, rf_12_47, rf_12_48, rf_12_49, rf_12_51, rf_12_55, rf_12_56, rf_12_57, rf_12_58, rf_12_59, rf_12_60, Nat.reduceAdd, kc_419, kc_420, kc_421, kc_422, kc_423, kc_424, kc_425, kc_426, kc_427, kc_428, kc_429, kc_430, kc_431, kc_432, kc_433, kc_434, kc_435, kc_436, kc_437, kc_438, kc_439, kc_440, kc_441, kc_442, kc_443, kc_444, kc_445, kc_446, kc_447, kc_448, kc_449, kc_450, kc_451, kc_452, kc_453, kn_420, kn_421, kn_422, kn_423, kn_424, kn_425, kn_426, kn_427, kn_428, kn_429, kn_430, kn_431, kn_432, kn_433, kn_434, kn_435, kn_436, kn_437, kn_438, kn_439, kn_440, kn_441, kn_442, kn_443, kn_444, kn_445, kn_446, kn_447, kn_448, kn_449, kn_450, kn_451, kn_452, kn_453, r_isRule R h.2.2 hx, if_false]
  rw [if_neg (nI_pos (by omega)), if_pos (show nI w ≤ 1 from nI_le (b := 1) hw (by omega))]
  simp (decide := true) only [ob_s, cS_l, cS_r, gI_k, gR_k, pI_k, pR_k, cV_k, aI_k, tI_k, rZ_0, rZ_1, rZ_i, rf_12_0, rf_12_1, rf_12_3, rf_12_4, rf_12_5, rf_12_6, rf_12_7, rf_12_8, rf_12_9, rf_12_10, rf_12_11, rf_12_12, rf_12_13, rf_12_14, rf_12_15, rf_12_26, rf_12_27, rf_12_31, rf_12_32, rf_12_33, rf_12_34, rf_12_41, rf_12_44, rf_12_47, rf_12_48, rf_12_49, rf_12_51, rf_12_55, rf_12_56, rf_12_57, rf_12_58, rf_12_59, rf_12_60, Nat.reduceAdd, kc_419, kc_420, kc_421, kc_422, kc_423, kc_424, kc_425, kc_426, kc_427, kc_428, kc_429, kc_430, kc_431, kc_432, kc_433, kc_434, kc_435, kc_436, kc_437, kc_438, kc_439, kc_440, kc_441, kc_442, kc_443, kc_444, kc_445, kc_446, kc_447, kc_448, kc_449, kc_450, kc_451, kc_452, kc_453, kn_420, kn_421, kn_422, kn_423, kn_424, kn_425, kn_426, kn_427, kn_428, kn_429, kn_430, kn_431, kn_432, kn_433, kn_434, kn_435, kn_436, kn_437, kn_438, kn_439, kn_440, kn_441, kn_442, kn_443, kn_444, kn_445, kn_446, kn_447, kn_448, kn_449, kn_450, kn_451, kn_452, kn_453, a1, a2.2.2.2.2.1, a2.2.2.2.2.2]
  unfold aIdle
  rcases (show w = 0 ∨ w = 1 by omega) with rfl | rfl <;> simp (decide := true)
theorem r_idle' {y : Int32} (R : Wr nr q b) (h : RU2 s P nr q b st K) (hxy : ¬ isRl nr x ∨ isRl nr x ∧ (y < 0 ∨ (¬ y < 0 ∧ nI 2 ≤ y))) : fX12_idle N 419 x y (mk s) = some (.inl 0, mk (sI (sI s 419 2 0) 419 2 1)) := by
  unfold fX12_idle bX12_idle_0 bX12_idle_22
  rcases hxy with hx | ⟨hx, hy⟩
  · simp (decide := true) only [ob_s, cS_l, cS_r, gI_k, gR_k, pI_k, pR_k, cV_k, aI_k, tI_k, rZ_0, rZ_1, rZ_i, rf_12_0, rf_12_1, rf_12_3, rf_12_4, rf_12_5, rf_12_6, rf_12_7, rf_12_8, rf_12_9, rf_12_10, rf_12_11, rf_12_12, rf_12_13, rf_12_14, rf_12_15, rf_12_26, rf_12_27, rf_12_31, rf_12_32, rf_12_33, rf_12_34, rf_12_41, rf_12_44, rf_12_47, rf_12_48, rf_12_49, rf_12_51, rf_12_55, rf_12_56, rf_12_57, rf_12_58, rf_12_59, rf_12_60, Nat.reduceAdd, kc_419, kc_420, kc_421, kc_422, kc_423, kc_424, kc_425, kc_426, kc_427, kc_428, kc_429, kc_430, kc_431, kc_432, kc_433, kc_434, kc_435, kc_436, kc_437, kc_438, kc_439, kc_440, kc_441, kc_442, kc_443, kc_444, kc_445, kc_446, kc_447, kc_448, kc_449, kc_450, kc_451, kc_452, kc_453, kn_420, kn_421, kn_422, kn_423, kn_424, kn_425, kn_426, kn_427, kn_428, kn_429, kn_430, kn_431, kn_432, kn_433, kn_434, kn_435, kn_436, kn_437, kn_438, kn_439, kn_440, kn_441, kn_442, kn_443, kn_444, kn_445, kn_446, kn_447, kn_448, kn_449, kn_450, kn_451, kn_452, kn_453, r_isRule' R h.2.2 hx, r_bad1, if_true]
  · simp (decide := true) only [ob_s, cS_l, cS_r, gI_k, gR_k, pI_k, pR_k, cV_k, aI_k, tI_k, rZ_0, rZ_1, rZ_i, rf_12_0, rf_12_1, rf_12_3, rf_12_4, rf_12_5, rf_12_6, rf_12_7, rf_12_8, rf_12_9, rf_12_10, rf_12_11, rf_12_12, rf_12_13, rf_12_14, rf_12_15, rf_12_26, rf_12_27, rf_12_31, rf_12_32, rf_12_33, rf_12_34, rf_12_41, rf_12_44, rf_12_47, rf_12_48, rf_12_49, rf_12_51, rf_12_55, rf_12_56, rf_12_57, rf_12_58, rf_12_59, rf_12_60, Nat.reduceAdd, kc_419, kc_420, kc_421, kc_422, kc_423, kc_424, kc_425, kc_426, kc_427, kc_428, kc_429, kc_430, kc_431, kc_432, kc_433, kc_434, kc_435, kc_436, kc_437, kc_438, kc_439, kc_440, kc_441, kc_442, kc_443, kc_444, kc_445, kc_446, kc_447, kc_448, kc_449, kc_450, kc_451, kc_452, kc_453, kn_420, kn_421, kn_422, kn_423, kn_424, kn_425, kn_426, kn_427, kn_428, kn_429, kn_430, kn_431, kn_432, kn_433, kn_434, kn_435, kn_436, kn_437, kn_438, kn_439, kn_440, kn_441, kn_442, kn_443, kn_444, kn_445, kn_446, kn_447, kn_448, kn_449, kn_450, kn_451, kn_452, kn_453, r_isRule R h.2.2 hx, if_false, r_bad1]
    rcases hy with hy | hy
    · rw [if_pos hy]
    · rw [if_neg hy.1, if_neg (fun q => w1 (Or.inr hy) ⟨hy.1, q⟩)]
/-- the best rule -/
def bst (h : Nat → Nat) (fl : Nat → Int32) : Nat → Nat → Int32 × Int32 × Int32 → Int32
  | 0, _, t => t.1
  | f + 1, i, t => bst h fl f (i + 1) (if t.2.1 < nI (h i) ∨ (nI (h i) = t.2.1 ∧ fl i < t.2.2) then (nI i - 1, nI (h i), fl i) else t)
theorem bst_s (h : Nat → Nat) (fl : Nat → Int32) (f i : Nat) (t : Int32 × Int32 × Int32) : bst h fl (f + 1) i t = bst h fl f (i + 1) (if t.2.1 < nI (h i) ∨ (nI (h i) = t.2.1 ∧ fl i < t.2.2) then (nI i - 1, nI (h i), fl i) else t) := rfl
theorem rl_i {i : Nat} (h : i ≤ nr) : isRl nr (nI i - 1) := by
  cases i with
  | zero => exact Or.inl (by decide)
  | succ j => exact Or.inr ⟨j, by omega, nI_pred j⟩
theorem bst_rl (h : Nat → Nat) (fl : Nat → Int32) : ∀ f i t, i + f ≤ nr + 1 → isRl nr t.1 → isRl nr (bst h fl f i t)
  | 0, _, _, _, ht => ht
  | f + 1, i, t, hi, ht => by
    rw [bst_s]
    refine bst_rl h fl f (i + 1) _ (by omega) ?_
    split
    · exact rl_i (by omega)
    · exact ht
def aBest (P : pln) (K : Nat → Bool) (n D mv nr : Nat) (q : Nat → Int32) (b : Nat → Nat) (st : Nat → Int32) : Int32 := bst (fun i => dNo P K n D mv q b (nI i - 1) st) (fun i => dFm P K n D mv q b (nI i - 1) st) (nr + 1) 0 (-1, -1, 0)
theorem pred_le {i : Nat} (hr : nr ≤ 4) (hi : i ≤ 5) : (nI nr ≤ nI i - 1) ↔ nr + 1 ≤ i := by
  have e : (nI i - 1).toInt = (i : Int) - 1 := by
    cases i with
    | zero => decide
    | succ m => rw [nI_pred, nI_toInt (by omega)]; omega
  rw [i32_le, e, nI_toInt (by omega)]
  omega
theorem c_best9 (hN1 : 1000 ≤ N) (W : Wp P n D mv) (Z : Ws st n D) (R : Wr nr q b) : ∀ (f i : Nat) (t : Int32 × Int32 × Int32) (s : sg), nr + 1 - i < f → i ≤ nr + 1 → CR2 s p P n D mv nr q b st K → ∃ s', lX11_bestRule_9 N f 0 t.1 t.2.1 t.2.2 (nI i - 1) (mk s) = some (.inl (bst (fun i => dNo P K n D mv q b (nI i - 1) st) (fun i => dFm P K n D mv q b (nI i - 1) st) (nr + 1 - i) i t), mk s') ∧ Fr cQ s s' := by
  have hn8 := W.1
  have hp8 := pn8 hn8
  have hr4 := R.1
  intro f
  induction f with
  | zero => intro i t s hf; omega
  | succ f ih =>
    intro i t s hf hi h
    have hpO := plA_O h.1.1
    have hrO := plA_r h.1.1
    show ∃ s', bX11_bestRule_9 N (lX11_bestRule_9 N f) 0 t.1 t.2.1 t.2.2 (nI i - 1) (mk s) = _ ∧ _
    unfold bX11_bestRule_9 bX11_bestRule_99
    simp (decide := true) only [ob_s, cS_l, cS_r, gI_k, gR_k, pI_k, pR_k, cV_k, aI_k, tI_k, rZ_0, rZ_1, rZ_i, aR_24, aR_25, aZ_k, tZ_k, rf_3_6, rf_3_7, rf_3_8, rf_5_0, rf_5_1, rf_5_3, rf_5_4, rf_5_5, rf_5_7, rf_6_4, rf_6_11, rf_1_0, rf_1_1, rf_0_6, rf_9_7, rf_9_8, rf_8_0, rf_11_0, rf_11_5, rf_11_6, rf_11_7, rf_11_9, rf_11_10, rf_11_11, rf_11_12, rf_11_3, rf_11_4, Nat.reduceAdd, Nat.zero_add, kc_0, kc_1, kc_34, kc_35, kc_36, kc_37, kc_38, kc_39, kc_40, kc_41, kc_42, kc_43, kc_44, kc_45, kc_46, kc_207, kc_208, kc_209, kc_210, kc_211, kc_212, kc_213, kc_214, kc_215, kc_216, kc_377, kc_378, kc_379, kc_380, kc_381, kc_382, kc_383, kc_384, kc_385, kc_386, kc_387, kc_388, kc_389, kc_390, kc_391, kc_392, kc_393, kc_394, kc_395, kc_414, kc_415, kc_416, kc_417, kc_418, kn_1, kn_36, kn_39, kn_41, kn_42, kn_43, kn_44, kn_45, kn_46, kn_209, kn_211, kn_212, kn_213, kn_214, kn_215, kn_216, kn_378, kn_380, kn_382, kn_383, kn_385, kn_386, kn_388, kn_390, kn_392, kn_393, kn_395, kn_414, kn_415, kn_417, kn_418, h.1.2.1, hpO.1, hrO.1, h.2.1]
    by_cases c : nr + 1 ≤ i
    · rw [if_pos ((pred_le hr4 (by omega)).mpr c), show nr + 1 - i = 0 by omega]
      exact ⟨s, rfl, Fr_r _ _⟩
    · rw [if_neg (fun g => c ((pred_le hr4 (by omega)).mp g))]
      obtain ⟨g, hg, hg2⟩ := sub1 (show i < nr + 1 by omega)
      have hx := rl_i (nr := nr) (show i ≤ nr by omega)
      obtain ⟨s1, a1, a2, a3⟩ := c_runsQ (N := N) hN1 W Z R hx h
      obtain ⟨d1, d2⟩ := dBy_hd (K := K) (q := q) (b := b) (x := nI i - 1) W Z
      have e0 : s1.1 384 0 = nI (hdN (dBy P K n D mv q b (nI i - 1) st)) := a2.1.trans d1
      have h1 := CR2_fr h hn8 a3
      simp (decide := true) only [ob_s, cS_l, cS_r, gI_k, gR_k, pI_k, pR_k, cV_k, aI_k, tI_k, rZ_0, rZ_1, rZ_i, aR_24, aR_25, aZ_k, tZ_k, rf_3_6, rf_3_7, rf_3_8, rf_5_0, rf_5_1, rf_5_3, rf_5_4, rf_5_5, rf_5_7, rf_6_4, rf_6_11, rf_1_0, rf_1_1, rf_0_6, rf_9_7, rf_9_8, rf_8_0, rf_11_0, rf_11_5, rf_11_6, rf_11_7, rf_11_9, rf_11_10, rf_11_11, rf_11_12, rf_11_3, rf_11_4, Nat.reduceAdd, Nat.zero_add, kc_0, kc_1, kc_34, kc_35, kc_36, kc_37, kc_38, kc_39, kc_40, kc_41, kc_42, kc_43, kc_44, kc_45, kc_46, kc_207, kc_208, kc_209, kc_210, kc_211, kc_212, kc_213, kc_214, kc_215, kc_216, kc_377, kc_378, kc_379, kc_380, kc_381, kc_382, kc_383, kc_384, kc_385, kc_386, kc_387, kc_388, kc_389, kc_390, kc_391, kc_392, kc_393, kc_394, kc_395, kc_414, kc_415, kc_416, kc_417, kc_418, kn_1, kn_36, kn_39, kn_41, kn_42, kn_43, kn_44, kn_45, kn_46, kn_209, kn_211, kn_212, kn_213, kn_214, kn_215, kn_216, kn_378, kn_380, kn_382, kn_383, kn_385, kn_386, kn_388, kn_390, kn_392, kn_393, kn_395, kn_414, kn_415, kn_417, kn_418, a1, e0, j_bits _ (show hdN (dBy P K n D mv q b (nI i - 1) st) < 256 by omega)]
      rw [hg, bst_s]
      have nx : nI i - 1 + 1 = nI (i + 1) - 1 := by
        rw [nI_pred]
        cases i with
        | zero => decide
        | succ m => rw [nI_pred, nI_1]
      have nxt : ∀ t' : Int32 × Int32 × Int32, ∃ s', bX11_bestRule_93 N (lX11_bestRule_9 N f) 0 t'.1 t'.2.1 t'.2.2 (nI i - 1) (mk s1) = some (.inl (bst (fun i => dNo P K n D mv q b (nI i - 1) st) (fun i => dFm P K n D mv q b (nI i - 1) st) g (i + 1) t'), mk s') ∧ Fr cQ s s' := by
        intro t'
        unfold bX11_bestRule_93
        rw [nx]
        obtain ⟨s2, b1, b2⟩ := ih (i + 1) t' s1 (by omega) (by omega) h1
        rw [hg2] at b1
        exact ⟨s2, b1, Fr_t a3 b2⟩
      have take : ∃ s', bX11_bestRule_79 N (lX11_bestRule_9 N f) 0 (nI i - 1) (nI (pcf (hdN (dBy P K n D mv q b (nI i - 1) st)))) (mk s1) = some (.inl (bst (fun i => dNo P K n D mv q b (nI i - 1) st) (fun i => dFm P K n D mv q b (nI i - 1) st) g (i + 1) (nI i - 1, nI (dNo P K n D mv q b (nI i - 1) st), dFm P K n D mv q b (nI i - 1) st)), mk s') ∧ Fr cQ s s' := by
        unfold bX11_bestRule_79
        simp (decide := true) only [ob_s, cS_l, cS_r, gI_k, gR_k, pI_k, pR_k, cV_k, aI_k, tI_k, rZ_0, rZ_1, rZ_i, aR_24, aR_25, aZ_k, tZ_k, rf_3_6, rf_3_7, rf_3_8, rf_5_0, rf_5_1, rf_5_3, rf_5_4, rf_5_5, rf_5_7, rf_6_4, rf_6_11, rf_1_0, rf_1_1, rf_0_6, rf_9_7, rf_9_8, rf_8_0, rf_11_0, rf_11_5, rf_11_6, rf_11_7, rf_11_9, rf_11_10, rf_11_11, rf_11_12, rf_11_3, rf_11_4, Nat.reduceAdd, Nat.zero_add, kc_0, kc_1, kc_34, kc_35, kc_36, kc_37, kc_38, kc_39, kc_40, kc_41, kc_42, kc_43, kc_44, kc_45, kc_46, kc_207, kc_208, kc_209, kc_210, kc_211, kc_212, kc_213, kc_214, kc_215, kc_216, kc_377, kc_378, kc_379, kc_380, kc_381, kc_382, kc_383, kc_384, kc_385, kc_386, kc_387, kc_388, kc_389, kc_390, kc_391, kc_392, kc_393, kc_394, kc_395, kc_414, kc_415, kc_416, kc_417, kc_418, kn_1, kn_36, kn_39, kn_41, kn_42, kn_43, kn_44, kn_45, kn_46, kn_209, kn_211, kn_212, kn_213, kn_214, kn_215, kn_216, kn_378, kn_380, kn_382, kn_383, kn_385, kn_386, kn_388, kn_390, kn_392, kn_393, kn_395, kn_414, kn_415, kn_417, kn_418, a2.2.2.1]
        exact nxt (nI i - 1, nI (dNo P K n D mv q b (nI i - 1) st), dFm P K n D mv q b (nI i - 1) st)
      by_cases c2 : t.2.1 < nI (pcf (hdN (dBy P K n D mv q b (nI i - 1) st)))
      · rw [if_pos c2]
        rw [if_pos (Or.inl (show t.2.1 < nI (dNo P K n D mv q b (nI i - 1) st) from c2))]
        exact take
      · rw [if_neg c2]
        by_cases c3 : nI (pcf (hdN (dBy P K n D mv q b (nI i - 1) st))) = t.2.1
        · rw [if_neg (fun g => g c3)]
          simp (decide := true) only [ob_s, cS_l, cS_r, gI_k, gR_k, pI_k, pR_k, cV_k, aI_k, tI_k, rZ_0, rZ_1, rZ_i, aR_24, aR_25, aZ_k, tZ_k, rf_3_6, rf_3_7, rf_3_8, rf_5_0, rf_5_1, rf_5_3, rf_5_4, rf_5_5, rf_5_7, rf_6_4, rf_6_11, rf_1_0, rf_1_1, rf_0_6, rf_9_7, rf_9_8, rf_8_0, rf_11_0, rf_11_5, rf_11_6, rf_11_7, rf_11_9, rf_11_10, rf_11_11, rf_11_12, rf_11_3, rf_11_4, Nat.reduceAdd, Nat.zero_add, kc_0, kc_1, kc_34, kc_35, kc_36, kc_37, kc_38, kc_39, kc_40, kc_41, kc_42, kc_43, kc_44, kc_45, kc_46, kc_207, kc_208, kc_209, kc_210, kc_211, kc_212, kc_213, kc_214, kc_215, kc_216, kc_377, kc_378, kc_379, kc_380, kc_381, kc_382, kc_383, kc_384, kc_385, kc_386, kc_387, kc_388, kc_389, kc_390, kc_391, kc_392, kc_393, kc_394, kc_395, kc_414, kc_415, kc_416, kc_417, kc_418, kn_1, kn_36, kn_39, kn_41, kn_42, kn_43, kn_44, kn_45, kn_46, kn_209, kn_211, kn_212, kn_213, kn_214, kn_215, kn_216, kn_378, kn_380, kn_382, kn_383, kn_385, kn_386, kn_388, kn_390, kn_392, kn_393, kn_395, kn_414, kn_415, kn_417, kn_418, a2.2.2.1]
          by_cases c4 : t.2.2 ≤ dFm P K n D mv q b (nI i - 1) st
          · rw [if_pos c4]
            rw [if_neg (fun g => g.elim (fun g => c2 g) (fun g => Int32.not_lt.mpr c4 g.2))]
            exact nxt t
          · rw [if_neg c4]
            rw [if_pos (Or.inr ⟨c3, Int32.not_le.mp c4⟩)]
            exact take
        · rw [if_pos c3]
          rw [if_neg (fun g => g.elim (fun g => c2 g) (fun g => c3 g.1))]
          exact nxt t
theorem c_bestRule (hN1 : 1000 ≤ N) (W : Wp P n D mv) (Z : Ws st n D) (R : Wr nr q b) (h : CR2 s p P n D mv nr q b st K) : ∃ s', fX11_bestRule N 0 (mk s) = some (.inl (aBest P K n D mv nr q b st), mk s') ∧ Fr cQ s s' := by
  have hr4 := R.1
  obtain ⟨s', a1, a2⟩ := c_best9 (N := N) (K := K) hN1 W Z R N 0 (-1, -1, 0) s (by omega) (by omega) h
  exact ⟨s', a1, a2⟩
theorem c_best (hN1 : 1000 ≤ N) (W : Wp P n D mv) (Z : Ws st n D) (R : Wr nr q b) (h : CR2 s p P n D mv nr q b st K) : ∃ s', fX11_best N 0 (mk s) = some (.inl (aBest P K n D mv nr q b st), mk s') ∧ Fr cQ s s' := by
  obtain ⟨s', a1, a2⟩ := c_bestRule (N := N) hN1 W Z R h
  refine ⟨s', ?_, a2⟩
  unfold fX11_best bX11_best_0
  simp (decide := true) only [ob_s, cS_l, cS_r, gI_k, gR_k, pI_k, pR_k, cV_k, aI_k, tI_k, rZ_0, rZ_1, rZ_i, aR_24, aR_25, aZ_k, tZ_k, rf_3_6, rf_3_7, rf_3_8, rf_5_0, rf_5_1, rf_5_3, rf_5_4, rf_5_5, rf_5_7, rf_6_4, rf_6_11, rf_1_0, rf_1_1, rf_0_6, rf_9_7, rf_9_8, rf_8_0, rf_11_0, rf_11_5, rf_11_6, rf_11_7, rf_11_9, rf_11_10, rf_11_11, rf_11_12, rf_11_3, rf_11_4, Nat.reduceAdd, Nat.zero_add, kc_0, kc_1, kc_34, kc_35, kc_36, kc_37, kc_38, kc_39, kc_40, kc_41, kc_42, kc_43, kc_44, kc_45, kc_46, kc_207, kc_208, kc_209, kc_210, kc_211, kc_212, kc_213, kc_214, kc_215, kc_216, kc_377, kc_378, kc_379, kc_380, kc_381, kc_382, kc_383, kc_384, kc_385, kc_386, kc_387, kc_388, kc_389, kc_390, kc_391, kc_392, kc_393, kc_394, kc_395, kc_414, kc_415, kc_416, kc_417, kc_418, kn_1, kn_36, kn_39, kn_41, kn_42, kn_43, kn_44, kn_45, kn_46, kn_209, kn_211, kn_212, kn_213, kn_214, kn_215, kn_216, kn_378, kn_380, kn_382, kn_383, kn_385, kn_386, kn_388, kn_390, kn_392, kn_393, kn_395, kn_414, kn_415, kn_417, kn_418, a1]
theorem r_best9 (hN1 : 1000 ≤ N) (W : Wp P n D mv) (Z : Ws st n D) (R : Wr nr q b) : ∀ (f i : Nat) (t : Int32 × Int32 × Int32) (s : sg), nr + 1 - i < f → i ≤ nr + 1 → RU2 s P nr q b st K → ∃ s', lX12_bestNow_9 N f 419 t.1 t.2.1 t.2.2 (nI i - 1) (mk s) = some (.inl (bst (fun i => dNo P K n D mv q b (nI i - 1) st) (fun i => dFm P K n D mv q b (nI i - 1) st) (nr + 1 - i) i t), mk s') ∧ s'.1 419 2 = s.1 419 2 ∧ RU2 s' P nr q b st K ∧ Fr rS s s' := by
  have hn8 := W.1
  have hp8 := pn8 hn8
  have hr4 := R.1
  intro f
  induction f with
  | zero => intro i t s hf; omega
  | succ f ih =>
    intro i t s hf hi h
    show ∃ s', bX12_bestNow_9 N (lX12_bestNow_9 N f) 419 t.1 t.2.1 t.2.2 (nI i - 1) (mk s) = _ ∧ _
    unfold bX12_bestNow_9 bX12_bestNow_75
    simp (decide := true) only [ob_s, cS_l, cS_r, gI_k, gR_k, pI_k, pR_k, cV_k, aI_k, tI_k, rZ_0, rZ_1, rZ_i, rf_12_0, rf_12_1, rf_12_3, rf_12_4, rf_12_5, rf_12_6, rf_12_7, rf_12_8, rf_12_9, rf_12_10, rf_12_11, rf_12_12, rf_12_13, rf_12_14, rf_12_15, rf_12_26, rf_12_27, rf_12_31, rf_12_32, rf_12_33, rf_12_34, rf_12_41, rf_12_44, rf_12_47, rf_12_48, rf_12_49, rf_12_51, rf_12_55, rf_12_56, rf_12_57, rf_12_58, rf_12_59, rf_12_60, Nat.reduceAdd, kc_419, kc_420, kc_421, kc_422, kc_423, kc_424, kc_425, kc_426, kc_427, kc_428, kc_429, kc_430, kc_431, kc_432, kc_433, kc_434, kc_435, kc_436, kc_437, kc_438, kc_439, kc_440, kc_441, kc_442, kc_443, kc_444, kc_445, kc_446, kc_447, kc_448, kc_449, kc_450, kc_451, kc_452, kc_453, kn_420, kn_421, kn_422, kn_423, kn_424, kn_425, kn_426, kn_427, kn_428, kn_429, kn_430, kn_431, kn_432, kn_433, kn_434, kn_435, kn_436, kn_437, kn_438, kn_439, kn_440, kn_441, kn_442, kn_443, kn_444, kn_445, kn_446, kn_447, kn_448, kn_449, kn_450, kn_451, kn_452, kn_453, nc_4, h.2.2]
    by_cases c : nr + 1 ≤ i
    · rw [if_pos ((pred_le hr4 (by omega)).mpr c), show nr + 1 - i = 0 by omega]
      exact ⟨s, rfl, rfl, h, Fr_r _ _⟩
    · rw [if_neg (fun g => c ((pred_le hr4 (by omega)).mp g))]
      obtain ⟨g, hg, hg2⟩ := sub1 (show i < nr + 1 by omega)
      have hx := rl_i (nr := nr) (show i ≤ nr by omega)
      obtain ⟨s1, a1, a2, a3, a4, a5, a6⟩ := r_dayBy (N := N) hN1 W Z R hx h.1 h.2.1
      obtain ⟨d1, d2⟩ := dBy_hd (K := K) (q := q) (b := b) (x := nI i - 1) W Z
      have e0 : s1.1 419 35 = nI (hdN (dBy P K n D mv q b (nI i - 1) st)) := a2.1.trans d1
      have h1 := RU2_s h a6 (RV_U a4)
      simp (decide := true) only [ob_s, cS_l, cS_r, gI_k, gR_k, pI_k, pR_k, cV_k, aI_k, tI_k, rZ_0, rZ_1, rZ_i, rf_12_0, rf_12_1, rf_12_3, rf_12_4, rf_12_5, rf_12_6, rf_12_7, rf_12_8, rf_12_9, rf_12_10, rf_12_11, rf_12_12, rf_12_13, rf_12_14, rf_12_15, rf_12_26, rf_12_27, rf_12_31, rf_12_32, rf_12_33, rf_12_34, rf_12_41, rf_12_44, rf_12_47, rf_12_48, rf_12_49, rf_12_51, rf_12_55, rf_12_56, rf_12_57, rf_12_58, rf_12_59, rf_12_60, Nat.reduceAdd, kc_419, kc_420, kc_421, kc_422, kc_423, kc_424, kc_425, kc_426, kc_427, kc_428, kc_429, kc_430, kc_431, kc_432, kc_433, kc_434, kc_435, kc_436, kc_437, kc_438, kc_439, kc_440, kc_441, kc_442, kc_443, kc_444, kc_445, kc_446, kc_447, kc_448, kc_449, kc_450, kc_451, kc_452, kc_453, kn_420, kn_421, kn_422, kn_423, kn_424, kn_425, kn_426, kn_427, kn_428, kn_429, kn_430, kn_431, kn_432, kn_433, kn_434, kn_435, kn_436, kn_437, kn_438, kn_439, kn_440, kn_441, kn_442, kn_443, kn_444, kn_445, kn_446, kn_447, kn_448, kn_449, kn_450, kn_451, kn_452, kn_453, a1, e0, m_bits hN1 (show hdN (dBy P K n D mv q b (nI i - 1) st) < 256 by omega)]
      rw [hg, bst_s]
      have nx : nI i - 1 + 1 = nI (i + 1) - 1 := by
        rw [nI_pred]
        cases i with
        | zero => decide
        | succ m => rw [nI_pred, nI_1]
      have nxt : ∀ t' : Int32 × Int32 × Int32, ∃ s', bX12_bestNow_69 N (lX12_bestNow_9 N f) 419 t'.1 t'.2.1 t'.2.2 (nI i - 1) (mk s1) = some (.inl (bst (fun i => dNo P K n D mv q b (nI i - 1) st) (fun i => dFm P K n D mv q b (nI i - 1) st) g (i + 1) t'), mk s') ∧ s'.1 419 2 = s.1 419 2 ∧ RU2 s' P nr q b st K ∧ Fr rS s s' := by
        intro t'
        unfold bX12_bestNow_69
        rw [nx]
        obtain ⟨s2, b1, b2, b3, b4⟩ := ih (i + 1) t' s1 (by omega) (by omega) h1
        rw [hg2] at b1
        exact ⟨s2, b1, b2.trans a5, b3, Fr_t a6 b4⟩
      have take : ∃ s', bX12_bestNow_58 N (lX12_bestNow_9 N f) 419 (nI i - 1) (nI (pcf (hdN (dBy P K n D mv q b (nI i - 1) st)))) (mk s1) = some (.inl (bst (fun i => dNo P K n D mv q b (nI i - 1) st) (fun i => dFm P K n D mv q b (nI i - 1) st) g (i + 1) (nI i - 1, nI (dNo P K n D mv q b (nI i - 1) st), dFm P K n D mv q b (nI i - 1) st)), mk s') ∧ s'.1 419 2 = s.1 419 2 ∧ RU2 s' P nr q b st K ∧ Fr rS s s' := by
        unfold bX12_bestNow_58
        simp (decide := true) only [ob_s, cS_l, cS_r, gI_k, gR_k, pI_k, pR_k, cV_k, aI_k, tI_k, rZ_0, rZ_1, rZ_i, rf_12_0, rf_12_1, rf_12_3, rf_12_4, rf_12_5, rf_12_6, rf_12_7, rf_12_8, rf_12_9, rf_12_10, rf_12_11, rf_12_12, rf_12_13, rf_12_14, rf_12_15, rf_12_26, rf_12_27, rf_12_31, rf_12_32, rf_12_33, rf_12_34, rf_12_41, rf_12_44, rf_12_47, rf_12_48, rf_12_49, rf_12_51, rf_12_55, rf_12_56, rf_12_57, rf_12_58, rf_12_59, rf_12_60, Nat.reduceAdd, kc_419, kc_420, kc_421, kc_422, kc_423, kc_424, kc_425, kc_426, kc_427, kc_428, kc_429, kc_430, kc_431, kc_432, kc_433, kc_434, kc_435, kc_436, kc_437, kc_438, kc_439, kc_440, kc_441, kc_442, kc_443, kc_444, kc_445, kc_446, kc_447, kc_448, kc_449, kc_450, kc_451, kc_452, kc_453, kn_420, kn_421, kn_422, kn_423, kn_424, kn_425, kn_426, kn_427, kn_428, kn_429, kn_430, kn_431, kn_432, kn_433, kn_434, kn_435, kn_436, kn_437, kn_438, kn_439, kn_440, kn_441, kn_442, kn_443, kn_444, kn_445, kn_446, kn_447, kn_448, kn_449, kn_450, kn_451, kn_452, kn_453, a3]
        exact nxt (nI i - 1, nI (dNo P K n D mv q b (nI i - 1) st), dFm P K n D mv q b (nI i - 1) st)
      by_cases c2 : nI (pcf (hdN (dBy P K n D mv q b (nI i - 1) st))) < t.2.1
      · rw [if_pos c2]
        rw [if_neg (fun g => g.elim (fun g => by rw [i32_lt] at c2; have g' : t.2.1 < nI (pcf (hdN (dBy P K n D mv q b (nI i - 1) st))) := g; rw [i32_lt] at g'; omega) (fun g => by have g' : nI (pcf (hdN (dBy P K n D mv q b (nI i - 1) st))) = t.2.1 := g.1; rw [g', i32_lt] at c2; omega))]
        exact nxt t
      · rw [if_neg c2]
        by_cases c3 : nI (pcf (hdN (dBy P K n D mv q b (nI i - 1) st))) = t.2.1
        · rw [if_neg (fun g => g c3)]
          simp (decide := true) only [ob_s, cS_l, cS_r, gI_k, gR_k, pI_k, pR_k, cV_k, aI_k, tI_k, rZ_0, rZ_1, rZ_i, rf_12_0, rf_12_1, rf_12_3, rf_12_4, rf_12_5, rf_12_6, rf_12_7, rf_12_8, rf_12_9, rf_12_10, rf_12_11, rf_12_12, rf_12_13, rf_12_14, rf_12_15, rf_12_26, rf_12_27, rf_12_31, rf_12_32, rf_12_33, rf_12_34, rf_12_41, rf_12_44, rf_12_47, rf_12_48, rf_12_49, rf_12_51, rf_12_55, rf_12_56, rf_12_57, rf_12_58, rf_12_59, rf_12_60, Nat.reduceAdd, kc_419, kc_420, kc_421, kc_422, kc_423, kc_424, kc_425, kc_426, kc_427, kc_428, kc_429, kc_430, kc_431, kc_432, kc_433, kc_434, kc_435, kc_436, kc_437, kc_438, kc_439, kc_440, kc_441, kc_442, kc_443, kc_444, kc_445, kc_446, kc_447, kc_448, kc_449, kc_450, kc_451, kc_452, kc_453, kn_420, kn_421, kn_422, kn_423, kn_424, kn_425, kn_426, kn_427, kn_428, kn_429, kn_430, kn_431, kn_432, kn_433, kn_434, kn_435, kn_436, kn_437, kn_438, kn_439, kn_440, kn_441, kn_442, kn_443, kn_444, kn_445, kn_446, kn_447, kn_448, kn_449, kn_450, kn_451, kn_452, kn_453, a3]
          have c2' : ¬ t.2.1 < nI (dNo P K n D mv q b (nI i - 1) st) := fun g => by
            have g' : t.2.1 < nI (pcf (hdN (dBy P K n D mv q b (nI i - 1) st))) := g
            rw [c3, i32_lt] at g'
            omega
          by_cases c4 : dFm P K n D mv q b (nI i - 1) st < t.2.2
          · rw [if_pos (Or.inr ⟨c3, c4⟩)]
            rw [if_pos (show (dBy P K n D mv q b (nI i - 1) st).1 4 - st 4 < t.2.2 from c4)]
            exact take
          · rw [if_neg (show ¬ (dBy P K n D mv q b (nI i - 1) st).1 4 - st 4 < t.2.2 from c4)]
            rw [if_neg (show ¬ (t.2.1 < nI (dNo P K n D mv q b (nI i - 1) st) ∨ (nI (dNo P K n D mv q b (nI i - 1) st) = t.2.1 ∧ dFm P K n D mv q b (nI i - 1) st < t.2.2)) from fun g => g.elim (fun g => c2' g) (fun g => c4 g.2))]
            exact nxt t
        · rw [if_pos c3]
          rw [if_pos (Or.inl (show t.2.1 < nI (dNo P K n D mv q b (nI i - 1) st) by
            show t.2.1 < nI (pcf (hdN (dBy P K n D mv q b (nI i - 1) st)))
            rw [i32_lt] at c2 ⊢
            have : (nI (pcf (hdN (dBy P K n D mv q b (nI i - 1) st)))).toInt ≠ t.2.1.toInt := fun g => c3 (Int32.toInt_inj.mp g)
            omega))]
          exact take
theorem r_bestNow (hN1 : 1000 ≤ N) (W : Wp P n D mv) (Z : Ws st n D) (R : Wr nr q b) (h : RU2 s P nr q b st K) : ∃ s', fX12_bestNow N 419 (mk s) = some (.inl (aBest P K n D mv nr q b st), mk s') ∧ s'.1 419 2 = s.1 419 2 ∧ RU2 s' P nr q b st K ∧ Fr rS s s' := by
  have hr4 := R.1
  obtain ⟨s', a1, a2⟩ := r_best9 (N := N) (K := K) hN1 W Z R N 0 (-1, -1, 0) s (by omega) (by omega) h
  exact ⟨s', a1, a2⟩
theorem r_best (hN1 : 1000 ≤ N) (W : Wp P n D mv) (Z : Ws st n D) (R : Wr nr q b) (h : RU2 s P nr q b st K) : ∃ s', fX12_best N 419 (mk s) = some (.inl (aBest P K n D mv nr q b st), mk s') ∧ RU2 s' P nr q b st K ∧ Fr rS s s' := by
  have f1 : Fr rQ s (sI s 419 2 0) := Fr_sI (by unfold rQ; omega)
  obtain ⟨s', a1, a2, a3, a4⟩ := r_bestNow (N := N) hN1 W Z R (RU2_q h f1)
  refine ⟨s', ?_, a3, Fr_t (Fr_m f1 (fun y j => rQ_rS)) a4⟩
  unfold fX12_best bX12_best_0
  simp (decide := true) only [ob_s, cS_l, cS_r, gI_k, gR_k, pI_k, pR_k, cV_k, aI_k, tI_k, rZ_0, rZ_1, rZ_i, rf_12_0, rf_12_1, rf_12_3, rf_12_4, rf_12_5, rf_12_6, rf_12_7, rf_12_8, rf_12_9, rf_12_10, rf_12_11, rf_12_12, rf_12_13, rf_12_14, rf_12_15, rf_12_26, rf_12_27, rf_12_31, rf_12_32, rf_12_33, rf_12_34, rf_12_41, rf_12_44, rf_12_47, rf_12_48, rf_12_49, rf_12_51, rf_12_55, rf_12_56, rf_12_57, rf_12_58, rf_12_59, rf_12_60, Nat.reduceAdd, kc_419, kc_420, kc_421, kc_422, kc_423, kc_424, kc_425, kc_426, kc_427, kc_428, kc_429, kc_430, kc_431, kc_432, kc_433, kc_434, kc_435, kc_436, kc_437, kc_438, kc_439, kc_440, kc_441, kc_442, kc_443, kc_444, kc_445, kc_446, kc_447, kc_448, kc_449, kc_450, kc_451, kc_452, kc_453, kn_420, kn_421, kn_422, kn_423, kn_424, kn_425, kn_426, kn_427, kn_428, kn_429, kn_430, kn_431, kn_432, kn_433, kn_434, kn_435, kn_436, kn_437, kn_438, kn_439, kn_440, kn_441, kn_442, kn_443, kn_444, kn_445, kn_446, kn_447, kn_448, kn_449, kn_450, kn_451, kn_452, kn_453, a1]
theorem aBest_rl : isRl nr (aBest P K n D mv nr q b st) := bst_rl _ _ _ _ _ (by omega) (Or.inl rfl)
/-- regret -/
def aReg (P : pln) (K : Nat → Bool) (n D mv nr : Nat) (q : Nat → Int32) (b : Nat → Nat) (st : Nat → Int32) : Int32 := nI (pcf (MS n (TT P st K D n mv (2 ^ n - 1)))) - nI (dNo P K n D mv q b (aBest P K n D mv nr q b st) st)
theorem c_regret (hN1 : 1000 ≤ N) (W : Wp P n D mv) (Z : Ws st n D) (R : Wr nr q b) (h : CR2 s p P n D mv nr q b st K) : ∃ s', fX11_regret N 0 (mk s) = some (.inl (aReg P K n D mv nr q b st), mk s') ∧ Fr cQ s s' := by
  have hn8 := W.1
  have hp8 := pn8 hn8
  have hD := W.2.2.2.1
  have hpO := plA_O h.1.1
  have hnow := (Ws_n Z W.1 W.2.2.2.1).1.2
  obtain ⟨s1, a1, a2⟩ := c_bestRule (N := N) hN1 W Z R h
  have h1 := CR2_fr h hn8 a2
  obtain ⟨s2, b1, b2, b3⟩ := c_runsQ (N := N) hN1 W Z R (aBest_rl (P := P) (K := K) (n := n) (D := D) (mv := mv) (nr := nr) (q := q) (b := b) (st := st)) h1
  have h2 := CR2_fr h1 hn8 b3
  obtain ⟨s3, d1, d2, d3⟩ := c_findMost (N := N) (a := 38) hN1 W Z hD hnow h2.1.1 h2.1.2.1 (Or.inl rfl) h2.1.2.2.1 h2.1.2.2.2
  obtain ⟨e1, e2⟩ := dBy_hd (K := K) (q := q) (b := b) (x := aBest P K n D mv nr q b st) W Z
  have e0 : s3.1 384 0 = nI (hdN (dBy P K n D mv q b (aBest P K n D mv nr q b st) st)) := (d3.1 _ _ (fun g => by unfold seD at g; omega)).trans (b2.1.trans e1)
  refine ⟨s3, ?_, Fr_t (Fr_t a2 b3) (Fr_m d3 (fun y j => seD_cQ))⟩
  unfold fX11_regret bX11_regret_0
  simp (decide := true) only [ob_s, cS_l, cS_r, gI_k, gR_k, pI_k, pR_k, cV_k, aI_k, tI_k, rZ_0, rZ_1, rZ_i, aR_24, aR_25, aZ_k, tZ_k, rf_3_6, rf_3_7, rf_3_8, rf_5_0, rf_5_1, rf_5_3, rf_5_4, rf_5_5, rf_5_7, rf_6_4, rf_6_11, rf_1_0, rf_1_1, rf_0_6, rf_9_7, rf_9_8, rf_8_0, rf_11_0, rf_11_5, rf_11_6, rf_11_7, rf_11_9, rf_11_10, rf_11_11, rf_11_12, rf_11_3, rf_11_4, Nat.reduceAdd, Nat.zero_add, kc_0, kc_1, kc_34, kc_35, kc_36, kc_37, kc_38, kc_39, kc_40, kc_41, kc_42, kc_43, kc_44, kc_45, kc_46, kc_207, kc_208, kc_209, kc_210, kc_211, kc_212, kc_213, kc_214, kc_215, kc_216, kc_377, kc_378, kc_379, kc_380, kc_381, kc_382, kc_383, kc_384, kc_385, kc_386, kc_387, kc_388, kc_389, kc_390, kc_391, kc_392, kc_393, kc_394, kc_395, kc_414, kc_415, kc_416, kc_417, kc_418, kn_1, kn_36, kn_39, kn_41, kn_42, kn_43, kn_44, kn_45, kn_46, kn_209, kn_211, kn_212, kn_213, kn_214, kn_215, kn_216, kn_378, kn_380, kn_382, kn_383, kn_385, kn_386, kn_388, kn_390, kn_392, kn_393, kn_395, kn_414, kn_415, kn_417, kn_418, h.1.2.1, a1, b1, h2.1.2.1, hpO.1, h2.1.2.2.1.1, d1, d2.1.1, e0, j_bits _ (show hdN (dBy P K n D mv q b (aBest P K n D mv nr q b st) st) < 256 by omega)]
  rfl
theorem r_regret (hN1 : 1000 ≤ N) (W : Wp P n D mv) (Z : Ws st n D) (R : Wr nr q b) (h : RU2 s P nr q b st K) : ∃ s', fX12_regret N 419 (mk s) = some (.inl (aReg P K n D mv nr q b st), mk s') ∧ RU2 s' P nr q b st K ∧ Fr rS s s' := by
  have hn8 := W.1
  have hp8 := pn8 hn8
  have hD := W.2.2.2.1
  have hpos := Nat.two_pow_pos n
  have hnow := (Ws_n Z W.1 W.2.2.2.1).1.2
  have f1 : Fr rQ s (sI s 419 2 0) := Fr_sI (by unfold rQ; omega)
  obtain ⟨s1, a1, a2, a3, a4⟩ := r_bestNow (N := N) hN1 W Z R (RU2_q h f1)
  obtain ⟨s2, b1, b2, b3, b4, b5, b6⟩ := r_dayBy (N := N) hN1 W Z R (aBest_rl (P := P) (K := K) (n := n) (D := D) (mv := mv) (nr := nr) (q := q) (b := b) (st := st)) a3.1 a3.2.1
  have h2 := RU2_s a3 b6 (RV_U b4)
  have e1 : s2.1 422 1 = nI D := (h2.1.1 0 1 (by omega) (by omega)).trans W.2.2.2.2.1
  have f3 : Fr rQ s2 (sI s2 419 30 (nI D)) := Fr_sI (by unfold rQ; omega)
  have h3 := RU2_q h2 f3
  have hV3 : RV (sI s2 419 30 (nI D)) P st K D := ⟨h3.1.1, h3.1.2.1, h3.1.2.2, by simp [sI_c]⟩
  obtain ⟨s4, d1, d2, d3, d4⟩ := r_mostOf (N := N) (w := 2 ^ n - 1) hN1 W Z hV3 hD hnow (by omega)
  obtain ⟨g1, g2⟩ := dBy_hd (K := K) (q := q) (b := b) (x := aBest P K n D mv nr q b st) W Z
  have e0 : s2.1 419 35 = nI (hdN (dBy P K n D mv q b (aBest P K n D mv nr q b st) st)) := b2.1.trans g1
  refine ⟨s4, ?_, RU2_q h3 d4, Fr_t (Fr_t (Fr_t (Fr_t (Fr_m f1 (fun y j => rQ_rS)) a4) b6) (Fr_m f3 (fun y j => rQ_rS))) (Fr_m d4 (fun y j => rQ_rS))⟩
  unfold fX12_regret bX12_regret_0
  simp (decide := true) only [ob_s, cS_l, cS_r, gI_k, gR_k, pI_k, pR_k, cV_k, aI_k, tI_k, rZ_0, rZ_1, rZ_i, rf_12_0, rf_12_1, rf_12_3, rf_12_4, rf_12_5, rf_12_6, rf_12_7, rf_12_8, rf_12_9, rf_12_10, rf_12_11, rf_12_12, rf_12_13, rf_12_14, rf_12_15, rf_12_26, rf_12_27, rf_12_31, rf_12_32, rf_12_33, rf_12_34, rf_12_41, rf_12_44, rf_12_47, rf_12_48, rf_12_49, rf_12_51, rf_12_55, rf_12_56, rf_12_57, rf_12_58, rf_12_59, rf_12_60, Nat.reduceAdd, kc_419, kc_420, kc_421, kc_422, kc_423, kc_424, kc_425, kc_426, kc_427, kc_428, kc_429, kc_430, kc_431, kc_432, kc_433, kc_434, kc_435, kc_436, kc_437, kc_438, kc_439, kc_440, kc_441, kc_442, kc_443, kc_444, kc_445, kc_446, kc_447, kc_448, kc_449, kc_450, kc_451, kc_452, kc_453, kn_420, kn_421, kn_422, kn_423, kn_424, kn_425, kn_426, kn_427, kn_428, kn_429, kn_430, kn_431, kn_432, kn_433, kn_434, kn_435, kn_436, kn_437, kn_438, kn_439, kn_440, kn_441, kn_442, kn_443, kn_444, kn_445, kn_446, kn_447, kn_448, kn_449, kn_450, kn_451, kn_452, kn_453, a1, b1, e0, m_bits hN1 (show hdN (dBy P K n D mv q b (aBest P K n D mv nr q b st) st) < 256 by omega), m_set, e1, r_all W h3.1, d1]
  rfl
end DQ
