/- needs: 45.rday -/
/-! the reference's day by a rule, whole -/
/-- cells that the reference's questions may leave otherwise, or use and put back -/
def rS (x j : Nat) : Prop := rQ x j ∨ x = 435 ∨ x = 429
theorem rQ_rS {x j : Nat} (h : rQ x j) : rS x j := Or.inl h
theorem DAr_fr2 {Q : Nat → Nat → Prop} {s s' : sg} {t : dT} (h : DAr s t) (f : Fr Q s s') (h1 : ∀ j, 35 ≤ j → j ≤ 40 → j ≠ 36 → ¬ Q 419 j) (h2 : ∀ j, ¬ Q 440 j) : DAr s' t :=
  ⟨(f.1 _ _ (h1 _ (by omega) (by omega) (by omega))).trans h.1, fun k hk => (f.1 _ _ (h2 _)).trans (h.2.1 k hk), (f.1 _ _ (h1 _ (by omega) (by omega) (by omega))).trans h.2.2.1, (f.1 _ _ (h1 _ (by omega) (by omega) (by omega))).trans h.2.2.2.1, (f.1 _ _ (h1 _ (by omega) (by omega) (by omega))).trans h.2.2.2.2.1, (f.1 _ _ (h1 _ (by omega) (by omega) (by omega))).trans h.2.2.2.2.2⟩
def hA0 (st : Nat → Int32) : Nat → Int32 := fun k => if sBit (st 2) (nI k) = true then 0 else 100000
def t0 (st : Nat → Int32) : dT := (st, 0, hA0 st, 0, -1, 0, 0)
/-- the day by rule x, from st on -/
def dBy (P : pln) (K : Nat → Bool) (n D mv : Nat) (q : Nat → Int32) (b : Nat → Nat) (x : Int32) (st : Nat → Int32) : dT := dRun P K n D mv (gvl P K D q b x) (t0 st)
theorem RR_frS {s s' : sg} {nr : Nat} {q : Nat → Int32} {b : Nat → Nat} (h : RR s nr q b) (f : Fr rS s s') : RR s' nr q b := RR_fr h f (fun x j h1 h2 => by unfold rS rQ; omega)
section RE
variable {N : Nat} {s : sg} {P : pln} {st : Nat → Int32} {K : Nat → Bool} {n D mv k m nr : Nat} {q : Nat → Int32} {b : Nat → Nat} {x : Int32}
theorem r_day6 : ∀ (f i : Nat) (s : sg), 15 - i < f → i ≤ 15 → (∀ j, j < i → s.1 439 j = s.1 435 j) → ∃ s', lX12_dayBy_6 N f 419 x (nI i) (mk s) = bX12_dayBy_30 N 419 x (mk s') ∧ (∀ j, j < 15 → s'.1 439 j = s.1 435 j) ∧ Fr (fun a _ => a = 439) s s' := by
  intro f
  induction f with
  | zero => intro i s hf; omega
  | succ f ih =>
    intro i s hf hi hc
    show ∃ s', bX12_dayBy_6 N (lX12_dayBy_6 N f) 419 x (nI i) (mk s) = _ ∧ _
    unfold bX12_dayBy_6
    by_cases c : 15 ≤ i
    · rw [if_pos (show (15 : Int32) ≤ nI i from nI_le (a := 15) c (by omega))]
      exact ⟨s, rfl, fun j hj => hc j (by omega), Fr_r _ _⟩
    · rw [if_neg (show ¬ (15 : Int32) ≤ nI i from nI_ge (b := 15) (by omega) (by omega))]
      have ii : inB (nI i) 15 = true := inA_nI (by omega) (by omega)
      simp (decide := true) only [ob_s, cS_l, cS_r, gI_k, gR_k, pI_k, pR_k, cV_k, aI_k, tI_k, rZ_0, rZ_1, rZ_i, rf_12_0, rf_12_1, rf_12_3, rf_12_4, rf_12_5, rf_12_6, rf_12_7, rf_12_8, rf_12_9, rf_12_10, rf_12_11, rf_12_12, rf_12_13, rf_12_14, rf_12_15, rf_12_26, rf_12_27, rf_12_31, rf_12_32, rf_12_33, rf_12_34, rf_12_41, rf_12_44, rf_12_47, rf_12_48, rf_12_49, rf_12_51, rf_12_55, rf_12_56, rf_12_57, rf_12_58, rf_12_59, rf_12_60, Nat.reduceAdd, kc_419, kc_420, kc_421, kc_422, kc_423, kc_424, kc_425, kc_426, kc_427, kc_428, kc_429, kc_430, kc_431, kc_432, kc_433, kc_434, kc_435, kc_436, kc_437, kc_438, kc_439, kc_440, kc_441, kc_442, kc_443, kc_444, kc_445, kc_446, kc_447, kc_448, kc_449, kc_450, kc_451, kc_452, kc_453, kn_420, kn_421, kn_422, kn_423, kn_424, kn_425, kn_426, kn_427, kn_428, kn_429, kn_430, kn_431, kn_432, kn_433, kn_434, kn_435, kn_436, kn_437, kn_438, kn_439, kn_440, kn_441, kn_442, kn_443, kn_444, kn_445, kn_446, kn_447, kn_448, kn_449, kn_450, kn_451, kn_452, kn_453, ii, nI_clamp (show i < 2 ^ 31 by omega), nI_1]
      have f1 : Fr (fun a _ => a = 439) s (sI s 439 i (s.1 435 i)) := Fr_sI rfl
      obtain ⟨s', b1, b2, b3⟩ := ih (i + 1) (sI s 439 i (s.1 435 i)) (by omega) (by omega) (fun j hj => by
        rw [f1.1 435 _ (by omega), sI_1]
        by_cases e : j = i
        · rw [if_pos ⟨rfl, e⟩, e]
        · rw [if_neg (fun q => e q.2)]; exact hc j (by omega))
      exact ⟨s', b1, fun j hj => (b2 j hj).trans (f1.1 _ _ (by omega)), Fr_t f1 b3⟩
theorem r_day57 : ∀ (f i : Nat) (s : sg), 8 - i < f → i ≤ 8 → s.1 435 2 = st 2 → (∀ k, k < i → s.1 440 k = hA0 st k) → ∃ s', lX12_dayBy_57 N f 419 x (nI i) (mk s) = lX12_dayBy_94 N N 419 x (mk s') ∧ (∀ k, k < 8 → s'.1 440 k = hA0 st k) ∧ Fr (fun a _ => a = 440) s s' := by
  intro f
  induction f with
  | zero => intro i s hf; omega
  | succ f ih =>
    intro i s hf hi h2 hc
    show ∃ s', bX12_dayBy_57 N (lX12_dayBy_57 N f) 419 x (nI i) (mk s) = _ ∧ _
    unfold bX12_dayBy_57
    by_cases c : 8 ≤ i
    · rw [if_pos (show (8 : Int32) ≤ nI i from nI_le (a := 8) c (by omega))]
      exact ⟨s, rfl, fun j hj => hc j (by omega), Fr_r _ _⟩
    · rw [if_neg (show ¬ (8 : Int32) ≤ nI i from nI_ge (b := 8) (by omega) (by omega))]
      have ii : inB (nI i) 8 = true := inA_nI (by omega) (by omega)
      simp (decide := true) only [ob_s, cS_l, cS_r, gI_k, gR_k, pI_k, pR_k, cV_k, aI_k, tI_k, rZ_0, rZ_1, rZ_i, rf_12_0, rf_12_1, rf_12_3, rf_12_4, rf_12_5, rf_12_6, rf_12_7, rf_12_8, rf_12_9, rf_12_10, rf_12_11, rf_12_12, rf_12_13, rf_12_14, rf_12_15, rf_12_26, rf_12_27, rf_12_31, rf_12_32, rf_12_33, rf_12_34, rf_12_41, rf_12_44, rf_12_47, rf_12_48, rf_12_49, rf_12_51, rf_12_55, rf_12_56, rf_12_57, rf_12_58, rf_12_59, rf_12_60, Nat.reduceAdd, kc_419, kc_420, kc_421, kc_422, kc_423, kc_424, kc_425, kc_426, kc_427, kc_428, kc_429, kc_430, kc_431, kc_432, kc_433, kc_434, kc_435, kc_436, kc_437, kc_438, kc_439, kc_440, kc_441, kc_442, kc_443, kc_444, kc_445, kc_446, kc_447, kc_448, kc_449, kc_450, kc_451, kc_452, kc_453, kn_420, kn_421, kn_422, kn_423, kn_424, kn_425, kn_426, kn_427, kn_428, kn_429, kn_430, kn_431, kn_432, kn_433, kn_434, kn_435, kn_436, kn_437, kn_438, kn_439, kn_440, kn_441, kn_442, kn_443, kn_444, kn_445, kn_446, kn_447, kn_448, kn_449, kn_450, kn_451, kn_452, kn_453, nc_2, h2, m_isOf, sb_eq0]
      have nxt : ∀ y : Int32, y = hA0 st i → ∃ s', bX12_dayBy_87 N (lX12_dayBy_57 N f) 419 x (nI i) 440 (nI i) y (mk s) = lX12_dayBy_94 N N 419 x (mk s') ∧ (∀ k, k < 8 → s'.1 440 k = hA0 st k) ∧ Fr (fun a _ => a = 440) s s' := by
        intro y hy
        unfold bX12_dayBy_87
        simp (decide := true) only [ob_s, cS_l, cS_r, gI_k, gR_k, pI_k, pR_k, cV_k, aI_k, tI_k, rZ_0, rZ_1, rZ_i, rf_12_0, rf_12_1, rf_12_3, rf_12_4, rf_12_5, rf_12_6, rf_12_7, rf_12_8, rf_12_9, rf_12_10, rf_12_11, rf_12_12, rf_12_13, rf_12_14, rf_12_15, rf_12_26, rf_12_27, rf_12_31, rf_12_32, rf_12_33, rf_12_34, rf_12_41, rf_12_44, rf_12_47, rf_12_48, rf_12_49, rf_12_51, rf_12_55, rf_12_56, rf_12_57, rf_12_58, rf_12_59, rf_12_60, Nat.reduceAdd, kc_419, kc_420, kc_421, kc_422, kc_423, kc_424, kc_425, kc_426, kc_427, kc_428, kc_429, kc_430, kc_431, kc_432, kc_433, kc_434, kc_435, kc_436, kc_437, kc_438, kc_439, kc_440, kc_441, kc_442, kc_443, kc_444, kc_445, kc_446, kc_447, kc_448, kc_449, kc_450, kc_451, kc_452, kc_453, kn_420, kn_421, kn_422, kn_423, kn_424, kn_425, kn_426, kn_427, kn_428, kn_429, kn_430, kn_431, kn_432, kn_433, kn_434, kn_435, kn_436, kn_437, kn_438, kn_439, kn_440, kn_441, kn_442, kn_443, kn_444, kn_445, kn_446, kn_447, kn_448, kn_449, kn_450, kn_451, kn_452, kn_453, ii, nI_clamp (show i < 2 ^ 31 by omega), nI_1]
        have f1 : Fr (fun a _ => a = 440) s (sI s 440 i y) := Fr_sI rfl
        obtain ⟨s', b1, b2, b3⟩ := ih (i + 1) (sI s 440 i y) (by omega) (by omega) (by rw [f1.1 _ _ (by omega)]; exact h2) (fun j hj => by
          rw [sI_1]
          by_cases e : j = i
          · rw [if_pos ⟨rfl, e⟩, e, hy]
          · rw [if_neg (fun q => e q.2)]; exact hc j (by omega))
        exact ⟨s', b1, b2, Fr_t f1 b3⟩
      unfold hA0 sBit at nxt
      by_cases c2 : (st 2 >>> (nI i &&& 31)) &&& 1 = 1
      · rw [if_neg (fun q => q c2)]
        have := nxt 0 (by rw [if_pos (decide_eq_true c2)])
        exact this
      · rw [if_pos c2]
        have := nxt 100000 (by rw [if_neg (fun q => c2 (of_decide_eq_true q))])
        exact this
theorem bnd_le (Z : Ws st n D) (hD : D ≤ 480) : bnd P n D st ≤ 961 := by
  unfold bnd
  split <;> omega
theorem r_day94 (hN1 : 1000 ≤ N) (W : Wp P n D mv) (R : Wr nr q b) (hx : isRl nr x) : ∀ (f : Nat) (t : dT) (s : sg), bnd P n D t.1 < f → Ws t.1 n D → RV s P t.1 K D → RR s nr q b → DAr s t → ∃ s', lX12_dayBy_94 N f 419 x (mk s) = bX12_dayBy_115 N 419 (mk s') ∧ RV s' P (dRun P K n D mv (gvl P K D q b x) t).1 K D ∧ DAr s' (dRun P K n D mv (gvl P K D q b x) t) ∧ Fr rD s s' := by
  have hD := W.2.2.2.1
  intro f
  induction f with
  | zero => intro t s hf; omega
  | succ f ih =>
    intro t s hf Z hV hR hA
    show ∃ s', bX12_dayBy_94 N (lX12_dayBy_94 N f) 419 x (mk s) = _ ∧ _
    obtain ⟨⟨h0, h0'⟩, _⟩ := Ws_n Z W.1 W.2.2.2.1
    have e0 : s.1 435 0 = nI (nowN t.1) := (hV.2.1 0 (by omega)).trans h0
    unfold bX12_dayBy_94
    simp (decide := true) only [ob_s, cS_l, cS_r, gI_k, gR_k, pI_k, pR_k, cV_k, aI_k, tI_k, rZ_0, rZ_1, rZ_i, rf_12_0, rf_12_1, rf_12_3, rf_12_4, rf_12_5, rf_12_6, rf_12_7, rf_12_8, rf_12_9, rf_12_10, rf_12_11, rf_12_12, rf_12_13, rf_12_14, rf_12_15, rf_12_26, rf_12_27, rf_12_31, rf_12_32, rf_12_33, rf_12_34, rf_12_41, rf_12_44, rf_12_47, rf_12_48, rf_12_49, rf_12_51, rf_12_55, rf_12_56, rf_12_57, rf_12_58, rf_12_59, rf_12_60, Nat.reduceAdd, kc_419, kc_420, kc_421, kc_422, kc_423, kc_424, kc_425, kc_426, kc_427, kc_428, kc_429, kc_430, kc_431, kc_432, kc_433, kc_434, kc_435, kc_436, kc_437, kc_438, kc_439, kc_440, kc_441, kc_442, kc_443, kc_444, kc_445, kc_446, kc_447, kc_448, kc_449, kc_450, kc_451, kc_452, kc_453, kn_420, kn_421, kn_422, kn_423, kn_424, kn_425, kn_426, kn_427, kn_428, kn_429, kn_430, kn_431, kn_432, kn_433, kn_434, kn_435, kn_436, kn_437, kn_438, kn_439, kn_440, kn_441, kn_442, kn_443, kn_444, kn_445, kn_446, kn_447, kn_448, kn_449, kn_450, kn_451, kn_452, kn_453, nc_0, e0, hV.2.2.2]
    by_cases c : D ≤ nowN t.1
    · rw [if_pos (nI_le c (by omega)), dRun_e (by omega)]
      exact ⟨s, rfl, hV, hA, Fr_r _ _⟩
    · rw [if_neg (nI_ge (by omega) (by omega)), dRun_s W Z (by omega)]
      obtain ⟨s1, a1, a2, a3, a4⟩ := r_stepBy (N := N) hN1 W Z R hx (show nowN t.1 < D by omega) hV hR hA
      obtain ⟨Z', hb⟩ := dSt_ok (K := K) (g := gvl P K D q b x) W Z (show nowN t.1 < D by omega)
      simp (decide := true) only [ob_s, cS_l, cS_r, gI_k, gR_k, pI_k, pR_k, cV_k, aI_k, tI_k, rZ_0, rZ_1, rZ_i, rf_12_0, rf_12_1, rf_12_3, rf_12_4, rf_12_5, rf_12_6, rf_12_7, rf_12_8, rf_12_9, rf_12_10, rf_12_11, rf_12_12, rf_12_13, rf_12_14, rf_12_15, rf_12_26, rf_12_27, rf_12_31, rf_12_32, rf_12_33, rf_12_34, rf_12_41, rf_12_44, rf_12_47, rf_12_48, rf_12_49, rf_12_51, rf_12_55, rf_12_56, rf_12_57, rf_12_58, rf_12_59, rf_12_60, Nat.reduceAdd, kc_419, kc_420, kc_421, kc_422, kc_423, kc_424, kc_425, kc_426, kc_427, kc_428, kc_429, kc_430, kc_431, kc_432, kc_433, kc_434, kc_435, kc_436, kc_437, kc_438, kc_439, kc_440, kc_441, kc_442, kc_443, kc_444, kc_445, kc_446, kc_447, kc_448, kc_449, kc_450, kc_451, kc_452, kc_453, kn_420, kn_421, kn_422, kn_423, kn_424, kn_425, kn_426, kn_427, kn_428, kn_429, kn_430, kn_431, kn_432, kn_433, kn_434, kn_435, kn_436, kn_437, kn_438, kn_439, kn_440, kn_441, kn_442, kn_443, kn_444, kn_445, kn_446, kn_447, kn_448, kn_449, kn_450, kn_451, kn_452, kn_453, a1]
      obtain ⟨s2, b1, b2, b3, b4⟩ := ih _ s1 (by omega) Z' a2 (RR_fr hR a4 (fun y j g1 g2 => by unfold rD; omega)) a3
      exact ⟨s2, b1, b2, b3, Fr_t a4 b4⟩
theorem r_day134 : ∀ (f i : Nat) (s : sg), 15 - i < f → i ≤ 15 → (∀ j, j < i → s.1 435 j = s.1 439 j) → ∃ s', lX12_dayBy_134 N f 419 (nI i) (mk s) = some (.inl (), mk s') ∧ (∀ j, j < 15 → s'.1 435 j = s.1 439 j) ∧ Fr (fun a _ => a = 435) s s' := by
  intro f
  induction f with
  | zero => intro i s hf; omega
  | succ f ih =>
    intro i s hf hi hc
    show ∃ s', bX12_dayBy_134 N (lX12_dayBy_134 N f) 419 (nI i) (mk s) = _ ∧ _
    unfold bX12_dayBy_134
    by_cases c : 15 ≤ i
    · rw [if_pos (show (15 : Int32) ≤ nI i from nI_le (a := 15) c (by omega))]
      exact ⟨s, rfl, fun j hj => hc j (by omega), Fr_r _ _⟩
    · rw [if_neg (show ¬ (15 : Int32) ≤ nI i from nI_ge (b := 15) (by omega) (by omega))]
      have ii : inB (nI i) 15 = true := inA_nI (by omega) (by omega)
      simp (decide := true) only [ob_s, cS_l, cS_r, gI_k, gR_k, pI_k, pR_k, cV_k, aI_k, tI_k, rZ_0, rZ_1, rZ_i, rf_12_0, rf_12_1, rf_12_3, rf_12_4, rf_12_5, rf_12_6, rf_12_7, rf_12_8, rf_12_9, rf_12_10, rf_12_11, rf_12_12, rf_12_13, rf_12_14, rf_12_15, rf_12_26, rf_12_27, rf_12_31, rf_12_32, rf_12_33, rf_12_34, rf_12_41, rf_12_44, rf_12_47, rf_12_48, rf_12_49, rf_12_51, rf_12_55, rf_12_56, rf_12_57, rf_12_58, rf_12_59, rf_12_60, Nat.reduceAdd, kc_419, kc_420, kc_421, kc_422, kc_423, kc_424, kc_425, kc_426, kc_427, kc_428, kc_429, kc_430, kc_431, kc_432, kc_433, kc_434, kc_435, kc_436, kc_437, kc_438, kc_439, kc_440, kc_441, kc_442, kc_443, kc_444, kc_445, kc_446, kc_447, kc_448, kc_449, kc_450, kc_451, kc_452, kc_453, kn_420, kn_421, kn_422, kn_423, kn_424, kn_425, kn_426, kn_427, kn_428, kn_429, kn_430, kn_431, kn_432, kn_433, kn_434, kn_435, kn_436, kn_437, kn_438, kn_439, kn_440, kn_441, kn_442, kn_443, kn_444, kn_445, kn_446, kn_447, kn_448, kn_449, kn_450, kn_451, kn_452, kn_453, ii, nI_clamp (show i < 2 ^ 31 by omega), nI_1]
      have f1 : Fr (fun a _ => a = 435) s (sI s 435 i (s.1 439 i)) := Fr_sI rfl
      obtain ⟨s', b1, b2, b3⟩ := ih (i + 1) (sI s 435 i (s.1 439 i)) (by omega) (by omega) (fun j hj => by
        rw [f1.1 439 _ (by omega), sI_1]
        by_cases e : j = i
        · rw [if_pos ⟨rfl, e⟩, e]
        · rw [if_neg (fun q => e q.2)]; exact hc j (by omega))
      exact ⟨s', b1, fun j hj => (b2 j hj).trans (f1.1 _ _ (by omega)), Fr_t f1 b3⟩
theorem r_dayByF (hN1 : 1000 ≤ N) (W : Wp P n D mv) (Z : Ws st n D) (R : Wr nr q b) (hx : isRl nr x) (h : RU s P st K) (hR : RR s nr q b) : ∃ s', fX12_dayBy N 419 x (mk s) = some (.inl (), mk s') ∧ DAr s' (dBy P K n D mv q b x st) ∧ s'.1 419 36 = (dBy P K n D mv q b x st).1 4 - st 4 ∧ RV s' P st K D ∧ s'.1 419 2 = s.1 419 2 ∧ Fr (fun x j => x = 435 ∨ (437 ≤ x ∧ x ≤ 440) ∨ (x = 419 ∧ (j = 30 ∨ (35 ≤ j ∧ j ≤ 40)))) s s' := by
  have hD := W.2.2.2.1
  have e1 : s.1 422 1 = nI D := (h.1 0 1 (by omega) (by omega)).trans W.2.2.2.2.1
  have f0 : Fr (fun a j => a = 419 ∧ j = 30) s (sI s 419 30 (nI D)) := Fr_sI ⟨rfl, rfl⟩
  obtain ⟨s1, a1, a2, a3⟩ := r_day6 (N := N) (x := x) N 0 (sI s 419 30 (nI D)) (by omega) (by omega) (fun j hj => by omega)
  generalize hs2 : sI (sI (sI (sI (sI s1 419 35 0) 419 37 0) 419 38 (-1)) 419 39 0) 419 40 0 = s2
  have f2 : Fr (fun a j => a = 419 ∧ 35 ≤ j ∧ j ≤ 40) s1 s2 := by
    rw [← hs2]
    exact Fr_t (Fr_t (Fr_t (Fr_t (Fr_sI (by omega)) (Fr_sI (by omega))) (Fr_sI (by omega))) (Fr_sI (by omega))) (Fr_sI (by omega))
  have f02 : Fr (fun a j => a = 439 ∨ (a = 419 ∧ (j = 30 ∨ (35 ≤ j ∧ j ≤ 40)))) s s2 := Fr_t (Fr_t (Fr_m f0 (by intros; omega)) (Fr_m a3 (by intros; omega))) (Fr_m f2 (by intros; omega))
  have hV2 : RV s2 P st K D := by
    refine ⟨fun g k hg hk => ?_, fun j hj => ?_, fun m hm => ?_, ?_⟩
    · rw [f02.1 _ _ (by omega)]; exact h.1 g k hg hk
    · rw [f02.1 _ _ (by omega)]; exact h.2.1 j hj
    · rw [f02.1 _ _ (by omega)]; exact h.2.2 m hm
    · rw [f2.1 _ _ (by omega), a3.1 _ _ (by omega), sI_1, if_pos ⟨rfl, rfl⟩]
  obtain ⟨s3, b1, b2, b3⟩ := r_day57 (N := N) (x := x) (st := st) N 0 s2 (by omega) (by omega) (hV2.2.1 2 (by omega)) (fun k hk => by omega)
  have hV3 := RV_fr hV2 b3 (by intros; omega) (by intros; omega) (by omega)
  have hA3 : DAr s3 (t0 st) := by
    refine ⟨?_, b2, ?_, ?_, ?_, ?_⟩
    · rw [b3.1 _ _ (by omega), ← hs2]; simp [sI_c]; rfl
    · rw [b3.1 _ _ (by omega), ← hs2]; simp [sI_c]; rfl
    · rw [b3.1 _ _ (by omega), ← hs2]; simp [sI_c]; rfl
    · rw [b3.1 _ _ (by omega), ← hs2]; simp [sI_c]; rfl
    · rw [b3.1 _ _ (by omega), ← hs2]; simp [sI_c]; rfl
  have f03 : Fr (fun a j => a = 439 ∨ a = 440 ∨ (a = 419 ∧ (j = 30 ∨ (35 ≤ j ∧ j ≤ 40)))) s s3 := Fr_t (Fr_m f02 (by intros; omega)) (Fr_m b3 (by intros; omega))
  have hR3 := RR_fr hR f03 (by intros; omega)
  have hb := bnd_le (P := P) Z hD
  obtain ⟨s4, d1, d2, d3, d4⟩ := r_day94 (N := N) (K := K) hN1 W R hx N (t0 st) s3 (by show bnd P n D st < N; omega) Z hV3 hR3 hA3
  have k439 : ∀ j, j < 15 → s4.1 439 j = st j := fun j hj => by
    rw [d4.1 _ _ (by unfold rD; omega), b3.1 _ _ (by omega), f2.1 _ _ (by omega), a2 j hj, f0.1 _ _ (by omega)]
    exact h.2.1 j hj
  have e44 : s4.1 435 4 = (dBy P K n D mv q b x st).1 4 := d2.2.1 4 (by omega)
  obtain ⟨s5, g1, g2, g3⟩ := r_day134 (N := N) N 0 (sI s4 419 36 ((dBy P K n D mv q b x st).1 4 - st 4)) (by omega) (by omega) (fun j hj => by omega)
  have f5 : Fr (fun a j => a = 435 ∨ (a = 419 ∧ j = 36)) s4 s5 := Fr_t (Fr_sI (by omega)) (Fr_m g3 (by intros; omega))
  refine ⟨s5, ?_, ?_, ?_, ⟨fun g k hg hk => ?_, fun j hj => ?_, fun m hm => ?_, ?_⟩, ?_, ?_⟩
  · unfold fX12_dayBy bX12_dayBy_0
    simp (decide := true) only [ob_s, cS_l, cS_r, gI_k, gR_k, pI_k, pR_k, cV_k, aI_k, tI_k, rZ_0, rZ_1, rZ_i, rf_12_0, rf_12_1, rf_12_3, rf_12_4, rf_12_5, rf_12_6, rf_12_7, rf_12_8, rf_12_9, rf_12_10, rf_12_11, rf_12_12, rf_12_13, rf_12_14, rf_12_15, rf_12_26, rf_12_27, rf_12_31, rf_12_32, rf_12_33, rf_12_34, rf_12_41, rf_12_44, rf_12_47, rf_12_48, rf_12_49, rf_12_51, rf_12_55, rf_12_56, rf_12_57, rf_12_58, rf_12_59, rf_12_60, Nat.reduceAdd, kc_419, kc_420, kc_421, kc_422, kc_423, kc_424, kc_425, kc_426, kc_427, kc_428, kc_429, kc_430, kc_431, kc_432, kc_433, kc_434, kc_435, kc_436, kc_437, kc_438, kc_439, kc_440, kc_441, kc_442, kc_443, kc_444, kc_445, kc_446, kc_447, kc_448, kc_449, kc_450, kc_451, kc_452, kc_453, kn_420, kn_421, kn_422, kn_423, kn_424, kn_425, kn_426, kn_427, kn_428, kn_429, kn_430, kn_431, kn_432, kn_433, kn_434, kn_435, kn_436, kn_437, kn_438, kn_439, kn_440, kn_441, kn_442, kn_443, kn_444, kn_445, kn_446, kn_447, kn_448, kn_449, kn_450, kn_451, kn_452, kn_453, m_set, e1]
    have a1' : lX12_dayBy_6 N N 419 x 0 (mk (sI s 419 30 (nI D))) = bX12_dayBy_30 N 419 x (mk s1) := a1
    rw [a1']
    unfold bX12_dayBy_30
    simp (decide := true) only [ob_s, cS_l, cS_r, gI_k, gR_k, pI_k, pR_k, cV_k, aI_k, tI_k, rZ_0, rZ_1, rZ_i, rf_12_0, rf_12_1, rf_12_3, rf_12_4, rf_12_5, rf_12_6, rf_12_7, rf_12_8, rf_12_9, rf_12_10, rf_12_11, rf_12_12, rf_12_13, rf_12_14, rf_12_15, rf_12_26, rf_12_27, rf_12_31, rf_12_32, rf_12_33, rf_12_34, rf_12_41, rf_12_44, rf_12_47, rf_12_48, rf_12_49, rf_12_51, rf_12_55, rf_12_56, rf_12_57, rf_12_58, rf_12_59, rf_12_60, Nat.reduceAdd, kc_419, kc_420, kc_421, kc_422, kc_423, kc_424, kc_425, kc_426, kc_427, kc_428, kc_429, kc_430, kc_431, kc_432, kc_433, kc_434, kc_435, kc_436, kc_437, kc_438, kc_439, kc_440, kc_441, kc_442, kc_443, kc_444, kc_445, kc_446, kc_447, kc_448, kc_449, kc_450, kc_451, kc_452, kc_453, kn_420, kn_421, kn_422, kn_423, kn_424, kn_425, kn_426, kn_427, kn_428, kn_429, kn_430, kn_431, kn_432, kn_433, kn_434, kn_435, kn_436, kn_437, kn_438, kn_439, kn_440, kn_441, kn_442, kn_443, kn_444, kn_445, kn_446, kn_447, kn_448, kn_449, kn_450, kn_451, kn_452, kn_453, hs2]
    have b1' : lX12_dayBy_57 N N 419 x 0 (mk s2) = lX12_dayBy_94 N N 419 x (mk s3) := b1
    rw [b1', d1]
    unfold bX12_dayBy_115
    simp (decide := true) only [ob_s, cS_l, cS_r, gI_k, gR_k, pI_k, pR_k, cV_k, aI_k, tI_k, rZ_0, rZ_1, rZ_i, rf_12_0, rf_12_1, rf_12_3, rf_12_4, rf_12_5, rf_12_6, rf_12_7, rf_12_8, rf_12_9, rf_12_10, rf_12_11, rf_12_12, rf_12_13, rf_12_14, rf_12_15, rf_12_26, rf_12_27, rf_12_31, rf_12_32, rf_12_33, rf_12_34, rf_12_41, rf_12_44, rf_12_47, rf_12_48, rf_12_49, rf_12_51, rf_12_55, rf_12_56, rf_12_57, rf_12_58, rf_12_59, rf_12_60, Nat.reduceAdd, kc_419, kc_420, kc_421, kc_422, kc_423, kc_424, kc_425, kc_426, kc_427, kc_428, kc_429, kc_430, kc_431, kc_432, kc_433, kc_434, kc_435, kc_436, kc_437, kc_438, kc_439, kc_440, kc_441, kc_442, kc_443, kc_444, kc_445, kc_446, kc_447, kc_448, kc_449, kc_450, kc_451, kc_452, kc_453, kn_420, kn_421, kn_422, kn_423, kn_424, kn_425, kn_426, kn_427, kn_428, kn_429, kn_430, kn_431, kn_432, kn_433, kn_434, kn_435, kn_436, kn_437, kn_438, kn_439, kn_440, kn_441, kn_442, kn_443, kn_444, kn_445, kn_446, kn_447, kn_448, kn_449, kn_450, kn_451, kn_452, kn_453, nc_4, e44, k439 4 (by omega)]
    exact g1
  · exact DAr_fr2 d3 f5 (by intros; omega) (by intros; omega)
  · rw [g3.1 _ _ (by omega), sI_1, if_pos ⟨rfl, rfl⟩]
  · rw [f5.1 _ _ (by omega)]; exact d2.1 g k hg hk
  · rw [g2 j hj, sI_1, if_neg (by omega)]; exact k439 j hj
  · rw [f5.1 _ _ (by omega)]; exact d2.2.2.1 m hm
  · rw [f5.1 _ _ (by omega)]; exact d2.2.2.2
  · rw [f5.1 _ _ (by omega), d4.1 _ _ (by unfold rD; omega), f03.1 _ _ (by omega)]
  · exact Fr_t (Fr_t (Fr_m f03 (fun a j q => by omega)) (Fr_m d4 (fun a j q => by unfold rD at q; omega))) (Fr_m f5 (fun a j q => by omega))
theorem r_dayBy (hN1 : 1000 ≤ N) (W : Wp P n D mv) (Z : Ws st n D) (R : Wr nr q b) (hx : isRl nr x) (h : RU s P st K) (hR : RR s nr q b) : ∃ s', fX12_dayBy N 419 x (mk s) = some (.inl (), mk s') ∧ DAr s' (dBy P K n D mv q b x st) ∧ s'.1 419 36 = (dBy P K n D mv q b x st).1 4 - st 4 ∧ RV s' P st K D ∧ s'.1 419 2 = s.1 419 2 ∧ Fr rS s s' := by
  obtain ⟨s', a1, a2, a3, a4, a5, a6⟩ := r_dayByF (N := N) hN1 W Z R hx h hR
  exact ⟨s', a1, a2, a3, a4, a5, Fr_m a6 (fun a j q => by unfold rS rQ; omega)⟩
theorem r_dayBy50 (hN1 : 1000 ≤ N) (W : Wp P n D mv) (Z : Ws st n D) (R : Wr nr q b) (hx : isRl nr x) (h : RU s P st K) (hR : RR s nr q b) : ∃ s', fX12_dayBy N 419 x (mk s) = some (.inl (), mk s') ∧ DAr s' (dBy P K n D mv q b x st) ∧ s'.1 419 36 = (dBy P K n D mv q b x st).1 4 - st 4 ∧ RV s' P st K D ∧ s'.1 419 2 = s.1 419 2 ∧ Fr rS s s' ∧ s'.1 419 50 = s.1 419 50 ∧ ∀ j, s'.1 446 j = s.1 446 j := by
  obtain ⟨s', a1, a2, a3, a4, a5, a6⟩ := r_dayByF (N := N) hN1 W Z R hx h hR
  exact ⟨s', a1, a2, a3, a4, a5, Fr_m a6 (fun a j q => by unfold rS rQ; omega), a6.1 _ _ (by omega), fun j => a6.1 _ _ (by omega)⟩
end RE
