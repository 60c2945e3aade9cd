/- needs: 47.cdayr -/
/-! the class's day by a rule, whole -/
section CF
variable {N : Nat} {s : sg} {P : pln} {st : Nat → Int32} {K : Nat → Bool} {n D mv k m nr p a : Nat} {q : Nat → Int32} {b : Nat → Nat} {x : Int32}
theorem obt_2 {st' : Nat → Int32} (h : st' 2 = st 2) (bo : Bool) : ∀ k, obt P st' bo k = obt P st bo k
  | 0 => rfl
  | k + 1 => by rw [obt_s, obt_s, obt_2 h bo k, opk_2 h]
theorem CD_st {st' : Nat → Int32} {s' : sg} (hn8 : n ≤ 8) (h : CD s p P n D mv nr q b K st) (hp : plA p) (f : Fr (stD 387) s s') (hs : SAt s' 387 st' K) : CD s' p P n D mv nr q b K st' := by
  have hp2 := plA_le hp
  have no : ∀ y j, (y < 387 ∨ 390 < y) → ¬ stD 387 y j := fun y j hy g => by unfold stD at g; omega
  obtain ⟨a1, a2, a3, a4, a5⟩ := h
  refine ⟨(f.2.1 _ _ (no _ _ (by omega))).trans a1, ⟨(f.1 _ _ (no _ _ (by omega))).trans a2.1, (f.1 _ _ (no _ _ (by omega))).trans a2.2.1, (f.1 _ _ (no _ _ (by omega))).trans a2.2.2.1, fun k hk => ?_⟩, CRl_fr a3 f (no _ _ (by omega)) (fun j => no _ _ (by omega)) (fun j => no _ _ (by omega)), OLk_fr a4 f (fun y j g1 g2 => no _ _ (by omega)), hs⟩
  obtain ⟨g1, g2, g3, g4, g5, g6⟩ := a2.2.2.2 k hk
  have e : ∀ j, s'.1 (p + 1 + 7 + k) j = s.1 (p + 1 + 7 + k) j := fun j => f.1 _ _ (no _ _ (by omega))
  exact ⟨(e _).trans g1, (e _).trans g2, (e _).trans g3, (e _).trans g4, (e _).trans g5, (e _).trans g6⟩
theorem c_shootsR {t : dT} (hN1 : 1000 ≤ N) (W : Wp P n D mv) (Z : Ws t.1 n D) (hp : plA p) (h : CD s p P n D mv nr q b K t.1) (hA : DAc s P n t) (hk : k < n) (hm : nowN t.1 + ln P k ≤ D) : ∃ s', fX0_shoots N 384 (nI k) (mk s) = some (.inl (), mk s') ∧ CD s' p P n D mv nr q b K (dTk P K D k t).1 ∧ DAc s' P n (dTk P K D k t) ∧ Fr (fun y _ => 384 ≤ y ∧ y ≤ 390) s s' := by
  have hn8 := W.1
  have hD := W.2.2.2.1
  have hpO := plA_O hp
  have hp2 := plA_le hp
  obtain ⟨⟨h0, h0'⟩, _⟩ := Ws_n Z W.1 W.2.2.2.1
  have hl := (W.2.2.2.2.2.2.2 k hk).2.1.2
  obtain ⟨s1, a1, a2, a3⟩ := c_shoots (N := N) (k := k) (m := nowN t.1) oo_391 so_387 (by omega) hpO h.2.2.2.1 h.2.2.2.2 Z.2.2.2 (by omega) (h.2.1.2.2.2 k hk) (W.2.2.2.2.2.2.2 k hk).1 (W.2.2.2.2.2.2.2 k hk).2.1 h0 hm hD
  have no : ∀ y j, (y < 387 ∨ 390 < y) → ¬ stD 387 y j := fun y j hy g => by unfold stD at g; omega
  have hA1 := DAc_fr hA a3 (fun j => no _ _ (by omega)) (fun j => no _ _ (by omega))
  have h1 := CD_st hn8 h hp a3 a2
  have f1 : Fr (fun y _ => 384 ≤ y ∧ y ≤ 390) s s1 := Fr_m a3 (fun y j g => by unfold stD at g; omega)
  unfold fX0_shoots bX0_shoots_0
  simp (decide := true) only [ob_s, cS_l, cS_r, gI_k, gR_k, pI_k, pR_k, cV_k, aI_k, tI_k, rZ_0, rZ_1, rZ_i, aR_24, rf_3_6, rf_3_8, rf_0_6, rf_0_7, rf_0_8, rf_0_9, rf_0_10, rf_1_0, rf_1_1, rf_9_7, rf_9_8, Nat.reduceAdd, kc_384, kc_385, kc_386, kc_387, kc_388, kc_389, kc_390, kc_391, kc_392, kc_393, kn_385, kn_386, kn_388, kn_390, kn_392, kn_393, a1, sk_0]
  unfold dTk
  generalize hng : sGo P t.1 K k (nowN t.1) (ln P k - 1) 1 = ng at *
  cases hen : sEn P t.1 K D k (nowN t.1) (ln P k)
  · rw [if_pos rfl, if_neg (by decide)]
    rw [hen] at h1
    simp (decide := true) only [ob_s, cS_l, cS_r, gI_k, gR_k, pI_k, pR_k, cV_k, aI_k, tI_k, rZ_0, rZ_1, rZ_i, aR_24, rf_3_6, rf_3_8, rf_0_6, rf_0_7, rf_0_8, rf_0_9, rf_0_10, rf_1_0, rf_1_1, rf_9_7, rf_9_8, Nat.reduceAdd, kc_384, kc_385, kc_386, kc_387, kc_388, kc_389, kc_390, kc_391, kc_392, kc_393, kn_385, kn_386, kn_388, kn_390, kn_392, kn_393, hA1.2.2.1]
    have f2 : Fr (fun y j => y = 384 ∧ j = 2) s1 (sI s1 384 2 (t.2.2.2.1 + 1)) := Fr_sI ⟨rfl, rfl⟩
    have e2 : sTk t.1 k ng false 2 = t.1 2 := by
      unfold sTk
      simp only [Bool.false_eq_true, if_false]
      rw [if_neg (by omega), if_neg (by omega), if_neg (by omega), if_neg (by omega)]
    have eI : isI (sTk t.1 k ng false) = isI t.1 := by
      unfold isI sTk
      simp only [Bool.false_eq_true, if_false]
      rw [if_neg (by omega), if_neg (by omega), if_neg (by omega), if_neg (by omega)]
    refine ⟨_, rfl, CD_fr h1 hp hn8 f2 (by intros; omega) (by intros; omega) (by omega), ?_, Fr_t f1 (Fr_m f2 (by intros; omega))⟩
    refine ⟨?_, fun k' hk' hb => ?_, ?_, ?_, ?_, ?_, ?_, ?_⟩
    · rw [f2.1 _ _ (by omega)]; exact hA1.1
    · rw [f2.1 _ _ (by omega)]; exact hA1.2.1 k' hk' hb
    · rw [sI_1, if_pos ⟨rfl, rfl⟩]
    · rw [f2.1 _ _ (by omega)]; exact hA1.2.2.2.1
    · rw [f2.1 _ _ (by omega)]; exact hA1.2.2.2.2.1
    · rw [f2.1 _ _ (by omega)]; exact hA1.2.2.2.2.2.1
    · rw [f2.1 _ _ (by omega)]
      show _ = nI (obt P (sTk t.1 k ng false) (isI (sTk t.1 k ng false)) n)
      rw [eI, obt_2 e2]; exact hA1.2.2.2.2.2.2.1
    · rw [f2.1 _ _ (by omega)]
      show _ = nI (obt P (sTk t.1 k ng false) (!isI (sTk t.1 k ng false)) n)
      rw [eI, obt_2 e2]; exact hA1.2.2.2.2.2.2.2
  · rw [if_neg (by decide), if_pos rfl]
    rw [hen] at h1 a2
    have Z1 := (tk_ok (K := K) W Z hk hm true).1
    rw [hng] at Z1
    have ik : inB (nI k) 8 = true := inA_nI (by omega) (by omega)
    have e0 : s1.1 387 0 = t.1 0 + nI ng := a2.1.trans (by show (if (0 : Nat) = 0 then _ else _) = _; rw [if_pos rfl])
    simp (decide := true) only [ob_s, cS_l, cS_r, gI_k, gR_k, pI_k, pR_k, cV_k, aI_k, tI_k, rZ_0, rZ_1, rZ_i, aR_24, rf_3_6, rf_3_8, rf_0_6, rf_0_7, rf_0_8, rf_0_9, rf_0_10, rf_1_0, rf_1_1, rf_9_7, rf_9_8, Nat.reduceAdd, kc_384, kc_385, kc_386, kc_387, kc_388, kc_389, kc_390, kc_391, kc_392, kc_393, kn_385, kn_386, kn_388, kn_390, kn_392, kn_393, hA1.1, sI_c, sI_r, Nat.reduceEqDiff, false_and, and_false, if_false, e0, ik, nI_clamp (show k < 2 ^ 31 by omega)]
    generalize hs2 : sI (sI (sI s1 384 0 (t.2.1 ||| ((1 : Int32) <<< (nI k &&& 31)))) 385 k (t.1 0 + nI ng)) 384 3 (t.1 0 + nI ng) = s2
    have f2 : Fr (fun y j => y = 385 ∨ (y = 384 ∧ (j = 0 ∨ j = 3))) s1 s2 := by
      rw [← hs2]
      exact Fr_t (Fr_t (Fr_sI (by omega)) (Fr_sI (by omega))) (Fr_sI (by omega))
    have h2 := CD_fr h1 hp hn8 f2 (by intros; omega) (by intros; omega) (by omega)
    obtain ⟨s3, d1, d2, d3, d4⟩ := c_findOpen (N := N) hN1 W Z1 hp h2
    simp (decide := true) only [ob_s, cS_l, cS_r, gI_k, gR_k, pI_k, pR_k, cV_k, aI_k, tI_k, rZ_0, rZ_1, rZ_i, aR_24, rf_3_6, rf_3_8, rf_0_6, rf_0_7, rf_0_8, rf_0_9, rf_0_10, rf_1_0, rf_1_1, rf_9_7, rf_9_8, Nat.reduceAdd, kc_384, kc_385, kc_386, kc_387, kc_388, kc_389, kc_390, kc_391, kc_392, kc_393, kn_385, kn_386, kn_388, kn_390, kn_392, kn_393, d1]
    refine ⟨s3, rfl, CD_fr h2 hp hn8 d4 (by intros; omega) (by intros; omega) (by omega), ?_, Fr_t (Fr_t f1 (Fr_m f2 (by intros; omega))) (Fr_m d4 (by intros; omega))⟩
    refine ⟨?_, fun k' hk' hb => ?_, ?_, ?_, ?_, ?_, d2, d3⟩
    · rw [d4.1 _ _ (by omega), ← hs2, sI_1, if_neg (by omega), sI_1, if_neg (by omega), sI_1, if_pos ⟨rfl, rfl⟩]
    · rw [d4.1 _ _ (by omega), ← hs2, sI_1, if_neg (by omega), sI_1]
      show _ = up1 t.2.2.1 k (t.1 0 + nI ng) k'
      unfold up1
      by_cases c9 : k' = k
      · rw [if_pos ⟨rfl, c9⟩, if_pos c9]
      · rw [if_neg (fun g => c9 g.2), if_neg c9, sI_1, if_neg (by omega)]
        refine hA1.2.1 k' hk' ?_
        have hb' : sBit (t.2.1 ||| ((1 : Int32) <<< (nI k &&& 31))) (nI k') = true := hb
        unfold sBit at hb' ⊢
        have hb2 := of_decide_eq_true hb'
        rw [bit_of _ _ (by omega), b_or, b_shl1 k (by omega) (by omega)] at hb2
        apply decide_eq_true
        rw [bit_of _ _ (by omega)]
        simpa [c9] using hb2
    · rw [d4.1 _ _ (by omega), f2.1 _ _ (by omega)]; exact hA1.2.2.1
    · rw [d4.1 _ _ (by omega), ← hs2, sI_1, if_pos ⟨rfl, rfl⟩]
    · rw [d4.1 _ _ (by omega), f2.1 _ _ (by omega)]; exact hA1.2.2.2.2.1
    · rw [d4.1 _ _ (by omega), f2.1 _ _ (by omega)]; exact hA1.2.2.2.2.2.1
theorem c_runs40 (hN1 : 1000 ≤ N) (W : Wp P n D mv) (R : Wr nr q b) (hp : plA p) (hx : isRl nr x) : ∀ (f i : Nat) (t : dT) (s : sg), bnd P n D t.1 < f → i + bnd P n D t.1 ≤ 962 → Ws t.1 n D → CD s p P n D mv nr q b K t.1 → DAc s P n t → ∃ s', lX0_runs_40 N f 384 a x (nI i) (mk s) = bX0_runs_181 N 384 a (mk s') ∧ CD s' p P n D mv nr q b K (dRun P K n D mv (gvl P K D q b x) t).1 ∧ DAc s' P n (dRun P K n D mv (gvl P K D q b x) t) ∧ Fr (dQ p) s s' := by
  have hn8 := W.1
  have hD := W.2.2.2.1
  have hmv := W.2.2.2.2.2.1
  have hpO := plA_O hp
  have hp2 := plA_le hp
  have hp8 := pn8 hn8
  intro f
  induction f with
  | zero => intro i t s hf; omega
  | succ f ih =>
    intro i t s hf hib Z h hA
    show ∃ s', bX0_runs_40 N (lX0_runs_40 N f) 384 a x (nI i) (mk s) = _ ∧ _
    obtain ⟨⟨h0, h0'⟩, _⟩ := Ws_n Z W.1 W.2.2.2.1
    have e0 : s.1 387 0 = nI (nowN t.1) := h.2.2.2.2.1.trans h0
    unfold bX0_runs_40
    rw [if_neg (show ¬ (1000 : Int32) ≤ nI i from nI_ge (b := 1000) (by omega) (by omega))]
    simp (decide := true) only [ob_s, cS_l, cS_r, gI_k, gR_k, pI_k, pR_k, cV_k, aI_k, tI_k, rZ_0, rZ_1, rZ_i, aR_24, rf_3_6, rf_3_8, rf_0_6, rf_0_7, rf_0_8, rf_0_9, rf_0_10, rf_1_0, rf_1_1, rf_9_7, rf_9_8, Nat.reduceAdd, kc_384, kc_385, kc_386, kc_387, kc_388, kc_389, kc_390, kc_391, kc_392, kc_393, kn_385, kn_386, kn_388, kn_390, kn_392, kn_393, e0, h.1, hpO.1, h.2.1.1]
    by_cases c : D ≤ nowN t.1
    · rw [if_pos (nI_le c (by omega)), dRun_e (by omega)]
      exact ⟨s, rfl, h, hA, Fr_r _ _⟩
    · rw [if_neg (nI_ge (by omega) (by omega)), dRun_s W Z (by omega)]
      obtain ⟨s1, a1, a2⟩ := c_chosen7 (N := N) (K := K) hN1 W Z R hp hx (show nowN t.1 < D by omega) N 0 (-1) 0 s (by omega) (by omega) (fun _ => ⟨rfl, rfl⟩) h hA.2.2.2.2.2.2.1
      have hch : fX0_chosen N 384 x (mk s) = some (.inl (dPk P K n D (gvl P K D q b x) t.1), mk s1) := a1
      have h1 := CD_fr h hp hn8 a2 (by intros; omega) (by intros; omega) (by omega)
      have hA1 := DAc_fr hA a2 (by intros; omega) (by intros; omega)
      have fr1 : Fr (dQ p) s s1 := Fr_m a2 (fun y j g => by unfold dQ; omega)
      obtain ⟨Z', hb⟩ := dSt_ok (K := K) (g := gvl P K D q b x) W Z (show nowN t.1 < D by omega)
      simp (decide := true) only [ob_s, cS_l, cS_r, gI_k, gR_k, pI_k, pR_k, cV_k, aI_k, tI_k, rZ_0, rZ_1, rZ_i, aR_24, rf_3_6, rf_3_8, rf_0_6, rf_0_7, rf_0_8, rf_0_9, rf_0_10, rf_1_0, rf_1_1, rf_9_7, rf_9_8, Nat.reduceAdd, kc_384, kc_385, kc_386, kc_387, kc_388, kc_389, kc_390, kc_391, kc_392, kc_393, kn_385, kn_386, kn_388, kn_390, kn_392, kn_393, hch]
      -- the next step
      have nxt : ∀ s2, CD s2 p P n D mv nr q b K (dSt P K n D mv (gvl P K D q b x) t).1 → DAc s2 P n (dSt P K n D mv (gvl P K D q b x) t) → Fr (dQ p) s s2 → ∃ s', bX0_runs_175 N (lX0_runs_40 N f) 384 a x (nI i) (mk s2) = bX0_runs_181 N 384 a (mk s') ∧ CD s' p P n D mv nr q b K (dRun P K n D mv (gvl P K D q b x) (dSt P K n D mv (gvl P K D q b x) t)).1 ∧ DAc s' P n (dRun P K n D mv (gvl P K D q b x) (dSt P K n D mv (gvl P K D q b x) t)) ∧ Fr (dQ p) s s' := by
        intro s2 k1 k2 k3
        unfold bX0_runs_175
        rw [nI_1]
        obtain ⟨s3, g1, g2, g3, g4⟩ := ih (i + 1) _ s2 (by omega) (by omega) Z' k1 k2
        exact ⟨s3, g1, g2, g3, Fr_t k3 g4⟩
      rcases dPk_c (g := gvl P K D q b x) (K := K) W Z (show nowN t.1 < D by omega) with hq | ⟨k, hk, hq, hmk, hwy⟩
      · have hds : dSt P K n D mv (gvl P K D q b x) t = dGo P n D mv t := by unfold dSt; rw [if_pos hq]
        rw [hq, if_pos rfl]
        rw [hds] at nxt ⊢
        have ol1 := obt_lt P t.1 (isI t.1) n
        have ol2 := obt_lt P t.1 (!isI t.1) n
        have e01 : s1.1 387 0 = nI (nowN t.1) := h1.2.2.2.2.1.trans h0
        have wait : (¬ (sme P t.1 (isI t.1) n = false ∧ sme P t.1 (!isI t.1) n = true ∧ nowN t.1 + mv < D)) → ∃ s', bX0_runs_157 N (lX0_runs_40 N f) 384 a x (nI i) (mk s1) = bX0_runs_181 N 384 a (mk s') ∧ CD s' p P n D mv nr q b K (dRun P K n D mv (gvl P K D q b x) (dGo P n D mv t)).1 ∧ DAc s' P n (dRun P K n D mv (gvl P K D q b x) (dGo P n D mv t)) ∧ Fr (dQ p) s s' := by
          intro hno
          have hgo : dGo P n D mv t = (sWt t.1 1, t.2.1, t.2.2.1, t.2.2.2.1, t.2.2.2.2.1, t.2.2.2.2.2.1 + 1, t.2.2.2.2.2.2) := if_neg hno
          obtain ⟨s2, k1, k2, k3⟩ := c_waits (N := N) (a := 387) (n := 1) so_387 h1.2.2.2.2
          have no : ∀ y j, (y < 387 ∨ 390 < y) → ¬ stD 387 y j := fun y j hy g => by unfold stD at g; omega
          have h2 := CD_st hn8 h1 hp k3 k2
          have hA2 := DAc_fr hA1 k3 (fun j => no _ _ (by omega)) (fun j => no _ _ (by omega))
          unfold bX0_runs_157
          simp (decide := true) only [ob_s, cS_l, cS_r, gI_k, gR_k, pI_k, pR_k, cV_k, aI_k, tI_k, rZ_0, rZ_1, rZ_i, aR_24, rf_3_6, rf_3_8, rf_0_6, rf_0_7, rf_0_8, rf_0_9, rf_0_10, rf_1_0, rf_1_1, rf_9_7, rf_9_8, Nat.reduceAdd, kc_384, kc_385, kc_386, kc_387, kc_388, kc_389, kc_390, kc_391, kc_392, kc_393, kn_385, kn_386, kn_388, kn_390, kn_392, kn_393, k1, hA2.2.2.2.2.1]
          have f3 : Fr (fun y j => y = 384 ∧ j = 4) s2 (sI s2 384 4 (t.2.2.2.2.2.1 + 1)) := Fr_sI ⟨rfl, rfl⟩
          have e2 : sWt t.1 1 2 = t.1 2 := rfl
          have eI : isI (sWt t.1 1) = isI t.1 := rfl
          refine nxt _ ?_ ?_ (Fr_t (Fr_t fr1 (Fr_m k3 (fun y j g => by unfold stD at g; unfold dQ; omega))) (Fr_m f3 (fun y j g => by unfold dQ; omega)))
          · rw [hgo]; exact CD_fr h2 hp hn8 f3 (by intros; omega) (by intros; omega) (by omega)
          · rw [hgo]
            refine ⟨?_, fun k' hk' hb => ?_, ?_, ?_, ?_, ?_, ?_, ?_⟩
            · rw [f3.1 _ _ (by omega)]; exact hA2.1
            · rw [f3.1 _ _ (by omega)]; exact hA2.2.1 k' hk' hb
            · rw [f3.1 _ _ (by omega)]; exact hA2.2.2.1
            · rw [f3.1 _ _ (by omega)]; exact hA2.2.2.2.1
            · rw [sI_1, if_pos ⟨rfl, rfl⟩]
            · rw [f3.1 _ _ (by omega)]; exact hA2.2.2.2.2.2.1
            · rw [f3.1 _ _ (by omega)]
              show _ = nI (obt P (sWt t.1 1) (isI (sWt t.1 1)) n)
              rw [eI, obt_2 e2]; exact hA2.2.2.2.2.2.2.1
            · rw [f3.1 _ _ (by omega)]
              show _ = nI (obt P (sWt t.1 1) (!isI (sWt t.1 1)) n)
              rw [eI, obt_2 e2]; exact hA2.2.2.2.2.2.2.2
        simp (decide := true) only [ob_s, cS_l, cS_r, gI_k, gR_k, pI_k, pR_k, cV_k, aI_k, tI_k, rZ_0, rZ_1, rZ_i, aR_24, rf_3_6, rf_3_8, rf_0_6, rf_0_7, rf_0_8, rf_0_9, rf_0_10, rf_1_0, rf_1_1, rf_9_7, rf_9_8, Nat.reduceAdd, kc_384, kc_385, kc_386, kc_387, kc_388, kc_389, kc_390, kc_391, kc_392, kc_393, kn_385, kn_386, kn_388, kn_390, kn_392, kn_393, hA1.2.2.2.2.2.2.1, hA1.2.2.2.2.2.2.2]
        by_cases c2 : obt P t.1 (isI t.1) n = 0
        · rw [if_neg (fun g => g (by rw [c2]; rfl))]
          by_cases c3 : obt P t.1 (!isI t.1) n = 0
          · rw [if_pos (by rw [c3]; rfl)]
            exact wait (fun g => by have := (obt_0 P t.1 (!isI t.1) n).mp c3; rw [this] at g; exact absurd g.2.1 (by decide))
          · rw [if_neg (show ¬ nI (obt P t.1 (!isI t.1) n) = 0 from fun g => c3 ((nI_eq (b := 0) (by omega) (by omega)).mp g))]
            simp (decide := true) only [ob_s, cS_l, cS_r, gI_k, gR_k, pI_k, pR_k, cV_k, aI_k, tI_k, rZ_0, rZ_1, rZ_i, aR_24, rf_3_6, rf_3_8, rf_0_6, rf_0_7, rf_0_8, rf_0_9, rf_0_10, rf_1_0, rf_1_1, rf_9_7, rf_9_8, Nat.reduceAdd, kc_384, kc_385, kc_386, kc_387, kc_388, kc_389, kc_390, kc_391, kc_392, kc_393, kn_385, kn_386, kn_388, kn_390, kn_392, kn_393, e01, h1.1, hpO.1, h1.2.1.1, h1.2.1.2.1, nI_add]
            by_cases c4 : D ≤ nowN t.1 + mv
            · rw [if_pos (nI_le c4 (by omega))]
              exact wait (fun g => by omega)
            · rw [if_neg (nI_ge (by omega) (by omega))]
              have hs1 : sme P t.1 (!isI t.1) n = true := by
                cases g : sme P t.1 (!isI t.1) n
                · exact absurd ((obt_0 P t.1 (!isI t.1) n).mpr g) c3
                · rfl
              have hgo : dGo P n D mv t = (sMv t.1 (nI mv), t.2.1, t.2.2.1, t.2.2.2.1, t.2.2.2.2.1, t.2.2.2.2.2.1, t.2.2.2.2.2.2 + 1) := if_pos ⟨(obt_0 P t.1 (isI t.1) n).mp c2, hs1, by omega⟩
              obtain ⟨s2, k1, k2, k3⟩ := c_goesOver (N := N) (a := 387) (n := nI mv) so_387 h1.2.2.2.2 Z.2.1
              have no : ∀ y j, (y < 387 ∨ 390 < y) → ¬ stD 387 y j := fun y j hy g => by unfold stD at g; omega
              have h2 := CD_st hn8 h1 hp k3 k2
              have hA2 := DAc_fr hA1 k3 (fun j => no _ _ (by omega)) (fun j => no _ _ (by omega))
              have Zm := (mv_ok W Z (show nowN t.1 + mv ≤ D by omega)).1
              simp (decide := true) only [ob_s, cS_l, cS_r, gI_k, gR_k, pI_k, pR_k, cV_k, aI_k, tI_k, rZ_0, rZ_1, rZ_i, aR_24, rf_3_6, rf_3_8, rf_0_6, rf_0_7, rf_0_8, rf_0_9, rf_0_10, rf_1_0, rf_1_1, rf_9_7, rf_9_8, Nat.reduceAdd, kc_384, kc_385, kc_386, kc_387, kc_388, kc_389, kc_390, kc_391, kc_392, kc_393, kn_385, kn_386, kn_388, kn_390, kn_392, kn_393, k1, hA2.2.2.2.2.2.1]
              have f3 : Fr (fun y j => y = 384 ∧ j = 5) s2 (sI s2 384 5 (t.2.2.2.2.2.2 + 1)) := Fr_sI ⟨rfl, rfl⟩
              have h3 := CD_fr h2 hp hn8 f3 (by intros; omega) (by intros; omega) (by omega)
              obtain ⟨s4, d1, d2, d3, d4⟩ := c_findOpen (N := N) hN1 W Zm hp h3
              simp (decide := true) only [ob_s, cS_l, cS_r, gI_k, gR_k, pI_k, pR_k, cV_k, aI_k, tI_k, rZ_0, rZ_1, rZ_i, aR_24, rf_3_6, rf_3_8, rf_0_6, rf_0_7, rf_0_8, rf_0_9, rf_0_10, rf_1_0, rf_1_1, rf_9_7, rf_9_8, Nat.reduceAdd, kc_384, kc_385, kc_386, kc_387, kc_388, kc_389, kc_390, kc_391, kc_392, kc_393, kn_385, kn_386, kn_388, kn_390, kn_392, kn_393, d1]
              have f4 : Fr (fun y j => y = 384 ∧ (j = 5 ∨ j = 11 ∨ j = 12)) s2 s4 := Fr_t (Fr_m f3 (by intros; omega)) (Fr_m d4 (by intros; omega))
              refine nxt s4 ?_ ?_ (Fr_t (Fr_t fr1 (Fr_m k3 (fun y j g => by unfold stD at g; unfold dQ; omega))) (Fr_m f4 (fun y j g => by unfold dQ; omega)))
              · rw [hgo]; exact CD_fr h3 hp hn8 d4 (by intros; omega) (by intros; omega) (by omega)
              · rw [hgo]
                refine ⟨?_, fun k' hk' hb => ?_, ?_, ?_, ?_, ?_, d2, d3⟩
                · rw [f4.1 _ _ (by omega)]; exact hA2.1
                · rw [f4.1 _ _ (by omega)]; exact hA2.2.1 k' hk' hb
                · rw [f4.1 _ _ (by omega)]; exact hA2.2.2.1
                · rw [f4.1 _ _ (by omega)]; exact hA2.2.2.2.1
                · rw [f4.1 _ _ (by omega)]; exact hA2.2.2.2.2.1
                · rw [d4.1 _ _ (by omega), sI_1, if_pos ⟨rfl, rfl⟩]
        · rw [if_pos (show ¬ nI (obt P t.1 (isI t.1) n) = 0 from fun g => c2 ((nI_eq (b := 0) (by omega) (by omega)).mp g))]
          exact wait (fun g => c2 ((obt_0 P t.1 (isI t.1) n).mpr g.1))
      · have hds : dSt P K n D mv (gvl P K D q b x) t = dTk P K D k t := by
          unfold dSt
          rw [hq, if_neg (m1_ne (by omega)), nI_clamp (by omega)]
        rw [hq, if_neg (m1_ne (by omega))]
        rw [hds] at nxt ⊢
        obtain ⟨s2, k1, k2, k3, k4⟩ := c_shootsR (N := N) hN1 W Z hp h1 hA1 hk hmk
        simp (decide := true) only [ob_s, cS_l, cS_r, gI_k, gR_k, pI_k, pR_k, cV_k, aI_k, tI_k, rZ_0, rZ_1, rZ_i, aR_24, rf_3_6, rf_3_8, rf_0_6, rf_0_7, rf_0_8, rf_0_9, rf_0_10, rf_1_0, rf_1_1, rf_9_7, rf_9_8, Nat.reduceAdd, kc_384, kc_385, kc_386, kc_387, kc_388, kc_389, kc_390, kc_391, kc_392, kc_393, kn_385, kn_386, kn_388, kn_390, kn_392, kn_393, k1]
        exact nxt s2 k2 k3 (Fr_t fr1 (Fr_m k4 (fun y j g => by unfold dQ; omega)))
/-- what a day leaves with the class -/
def CDy (s : sg) (t : dT) (film : Int32) : Prop := s.1 384 0 = t.2.1 ∧ (∀ k, k < 8 → sBit t.2.1 (nI k) = true → s.1 385 k = t.2.2.1 k) ∧ s.1 384 1 = film ∧ s.1 384 2 = t.2.2.2.1 ∧ s.1 384 3 = t.2.2.2.2.1 ∧ s.1 384 4 = t.2.2.2.2.2.1 ∧ s.1 384 5 = t.2.2.2.2.2.2
theorem c_runs (hN1 : 1000 ≤ N) (W : Wp P n D mv) (Z : Ws st n D) (R : Wr nr q b) (hp : plA p) (ha : a = 38 ∨ a = 377) (hx : isRl nr x) (hP : CPl s p P n D mv) (hC : CRl s (p + 4) nr q b) (hs : SAt s a st K) : ∃ s', fX0_runs N 384 p a x (mk s) = some (.inl (), mk s') ∧ CDy s' (dBy P K n D mv q b x st) ((dBy P K n D mv q b x st).1 4 - st 4) ∧ Fr (dQ p) s s' := by
  have hn8 := W.1
  have hD := W.2.2.2.1
  have hpO := plA_O hp
  have hp2 := plA_le hp
  have haO : stO a := stA_O (ha.elim (fun g => Or.inl g) (fun g => Or.inr (Or.inl g)))
  have ha2 : 38 ≤ a ∧ a ≤ 377 := by omega
  have f1 : Fr (fun y j => y = 384 ∧ j = 10) s (sR s 384 10 p) := Fr_sR ⟨rfl, rfl⟩
  have hs1 := SAt_fr hs f1 (by intros; omega)
  obtain ⟨s2, a1, a2, a3⟩ := c_stCopy (N := N) (a := 387) (b := a) so_387 haO (by omega) hs1 Z.2.2.2
  have no : ∀ y j, (y < 387 ∨ 390 < y) → ¬ stD 387 y j := fun y j hy g => by unfold stD at g; omega
  obtain ⟨s3, b1, b2, b3⟩ := c_looks (N := N) (o := 391) (p := p) hN1 oo_391 so_387 (by omega) hD a2.2.2.2.2.2.2.2.2
  have no3 : ∀ y j, (y < 391 ∨ 393 < y) → ¬ oD 391 y j := fun y j hy g => by unfold oD at g; omega
  generalize hs4 : sI (sI (sI (sI (sI s3 384 0 0) 384 2 0) 384 3 (-1)) 384 4 0) 384 5 0 = s4
  have f4 : Fr (fun y j => y = 384 ∧ j ≤ 5) s3 s4 := by
    rw [← hs4]
    exact Fr_t (Fr_t (Fr_t (Fr_t (Fr_sI (by omega)) (Fr_sI (by omega))) (Fr_sI (by omega))) (Fr_sI (by omega))) (Fr_sI (by omega))
  have e8 : (0 : Int32) = nI 0 := rfl
  have hP3 : CPl s3 p P n D mv := CPl_fr (CPl_fr (CPl_fr hP hn8 f1 (by intros; omega)) hn8 a3 (fun y j g1 g2 _ => no _ _ (by omega))) hn8 b3 (fun y j g1 g2 _ => no3 _ _ (by omega))
  have hC3 : CRl s3 (p + 4) nr q b := CRl_fr (CRl_fr (CRl_fr hC f1 (by omega) (by intros; omega) (by intros; omega)) a3 (no _ _ (by omega)) (fun j => no _ _ (by omega)) (fun j => no _ _ (by omega))) b3 (no3 _ _ (by omega)) (fun j => no3 _ _ (by omega)) (fun j => no3 _ _ (by omega))
  have h3 : CD s3 p P n D mv nr q b K st := by
    refine ⟨?_, hP3, hC3, b2, SAt_fr a2 b3 (fun y j g1 g2 => no3 _ _ (by omega))⟩
    rw [b3.2.1 _ _ (no3 _ _ (by omega)), a3.2.1 _ _ (no _ _ (by omega)), sR_2, if_pos ⟨rfl, rfl⟩]
  have h4 := CD_fr h3 hp hn8 f4 (by intros; omega) (by intros; omega) (by omega)
  obtain ⟨s5, d1, d2, d3, d4⟩ := c_findOpen (N := N) hN1 W Z hp h4
  have h5 := CD_fr h4 hp hn8 d4 (by intros; omega) (by intros; omega) (by omega)
  have hA5 : DAc s5 P n (t0 st) := by
    refine ⟨?_, fun k hk hb => ?_, ?_, ?_, ?_, ?_, d2, d3⟩
    · rw [d4.1 _ _ (by omega), ← hs4]; simp [sI_c]; rfl
    · exfalso
      have hb' : sBit 0 (nI k) = true := hb
      unfold sBit at hb'
      have := of_decide_eq_true hb'
      rw [bit_of _ _ (by omega), b_0] at this
      cases this
    · rw [d4.1 _ _ (by omega), ← hs4]; simp [sI_c]; rfl
    · rw [d4.1 _ _ (by omega), ← hs4]; simp [sI_c]; rfl
    · rw [d4.1 _ _ (by omega), ← hs4]; simp [sI_c]; rfl
    · rw [d4.1 _ _ (by omega), ← hs4]; simp [sI_c]; rfl
  have hb := bnd_le (P := P) Z hD
  obtain ⟨s6, g1, g2, g3, g4⟩ := c_runs40 (N := N) (a := a) (K := K) hN1 W R hp hx N 0 (t0 st) s5 (by show bnd P n D st < N; omega) (by show 0 + bnd P n D st ≤ 962; omega) Z h5 hA5
  have fr : Fr (dQ p) s s5 := Fr_t (Fr_t (Fr_t (Fr_t (Fr_m f1 (fun y j g => by unfold dQ; omega)) (Fr_m a3 (fun y j g => by unfold stD at g; unfold dQ; omega))) (Fr_m b3 (fun y j g => by unfold oD at g; unfold dQ; omega))) (Fr_m f4 (fun y j g => by unfold dQ; omega))) (Fr_m d4 (fun y j g => by unfold dQ; omega))
  have fr6 : Fr (dQ p) s s6 := Fr_t fr g4
  have ea : s6.1 a 3 = st 4 := (fr6.1 _ _ (by unfold dQ; omega)).trans hs.2.2.2.2.1
  have e3 : s6.1 387 3 = (dBy P K n D mv q b x st).1 4 := g2.2.2.2.2.2.2.2.2.1
  refine ⟨sI s6 384 1 ((dBy P K n D mv q b x st).1 4 - st 4), ?_, ?_, Fr_t fr6 (Fr_sI (by unfold dQ; omega))⟩
  · unfold fX0_runs bX0_runs_0
    simp (decide := true) only [ob_s, cS_l, cS_r, gI_k, gR_k, pI_k, pR_k, cV_k, aI_k, tI_k, rZ_0, rZ_1, rZ_i, aR_24, rf_3_6, rf_3_8, rf_0_6, rf_0_7, rf_0_8, rf_0_9, rf_0_10, rf_1_0, rf_1_1, rf_9_7, rf_9_8, Nat.reduceAdd, kc_384, kc_385, kc_386, kc_387, kc_388, kc_389, kc_390, kc_391, kc_392, kc_393, kn_385, kn_386, kn_388, kn_390, kn_392, kn_393, im_0_10]
    have e0 : s3.1 p 0 = nI D := hP3.1
    have e0' : s2.1 p 0 = nI D := by rw [← b3.1 _ _ (no3 _ _ (by omega))]; exact e0
    simp (decide := true) only [ob_s, cS_l, cS_r, gI_k, gR_k, pI_k, pR_k, cV_k, aI_k, tI_k, rZ_0, rZ_1, rZ_i, aR_24, rf_3_6, rf_3_8, rf_0_6, rf_0_7, rf_0_8, rf_0_9, rf_0_10, rf_1_0, rf_1_1, rf_9_7, rf_9_8, Nat.reduceAdd, kc_384, kc_385, kc_386, kc_387, kc_388, kc_389, kc_390, kc_391, kc_392, kc_393, kn_385, kn_386, kn_388, kn_390, kn_392, kn_393, a1, hpO.1, e0', b1]
    unfold fX0_clears bX0_clears_0
    simp (decide := true) only [ob_s, cS_l, cS_r, gI_k, gR_k, pI_k, pR_k, cV_k, aI_k, tI_k, rZ_0, rZ_1, rZ_i, aR_24, rf_3_6, rf_3_8, rf_0_6, rf_0_7, rf_0_8, rf_0_9, rf_0_10, rf_1_0, rf_1_1, rf_9_7, rf_9_8, Nat.reduceAdd, kc_384, kc_385, kc_386, kc_387, kc_388, kc_389, kc_390, kc_391, kc_392, kc_393, kn_385, kn_386, kn_388, kn_390, kn_392, kn_393, hs4, d1]
    have g1' : lX0_runs_40 N N 384 a x 0 (mk s5) = bX0_runs_181 N 384 a (mk s6) := g1
    rw [g1']
    unfold bX0_runs_181
    simp (decide := true) only [ob_s, cS_l, cS_r, gI_k, gR_k, pI_k, pR_k, cV_k, aI_k, tI_k, rZ_0, rZ_1, rZ_i, aR_24, rf_3_6, rf_3_8, rf_0_6, rf_0_7, rf_0_8, rf_0_9, rf_0_10, rf_1_0, rf_1_1, rf_9_7, rf_9_8, Nat.reduceAdd, kc_384, kc_385, kc_386, kc_387, kc_388, kc_389, kc_390, kc_391, kc_392, kc_393, kn_385, kn_386, kn_388, kn_390, kn_392, kn_393, haO.1, e3, ea]
  · refine ⟨?_, fun k hk hb => ?_, ?_, ?_, ?_, ?_, ?_⟩
    · rw [sI_1, if_neg (by omega)]; exact g3.1
    · rw [sI_1, if_neg (by omega)]; exact g3.2.1 k hk hb
    · rw [sI_1, if_pos ⟨rfl, rfl⟩]
    · rw [sI_1, if_neg (by omega)]; exact g3.2.2.1
    · rw [sI_1, if_neg (by omega)]; exact g3.2.2.2.1
    · rw [sI_1, if_neg (by omega)]; exact g3.2.2.2.2.1
    · rw [sI_1, if_neg (by omega)]; exact g3.2.2.2.2.2.1
end CF
