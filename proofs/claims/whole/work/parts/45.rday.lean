/- needs: 44.dayp -/
/-! the reference's day by a rule -/
/-- the reference's rules -/
def RR (s : sg) (nr : Nat) (q : Nat → Int32) (b : Nat → Nat) : Prop := ∀ r, r < nr → s.1 430 r = nI (b r) ∧ s.1 431 r = nI (b (r + 1)) ∧ ∀ j, j < b (r + 1) → s.1 432 j = q j
theorem RR_fr {Q : Nat → Nat → Prop} {s s' : sg} {nr : Nat} {q : Nat → Int32} {b : Nat → Nat} (h : RR s nr q b) (f : Fr Q s s') (hq : ∀ x j, 430 ≤ x → x ≤ 432 → ¬ Q x j) : RR s' nr q b := fun r hr => ⟨(f.1 _ _ (hq _ _ (by omega) (by omega))).trans (h r hr).1, (f.1 _ _ (hq _ _ (by omega) (by omega))).trans (h r hr).2.1, fun j hj => (f.1 _ _ (hq _ _ (by omega) (by omega))).trans ((h r hr).2.2 j hj)⟩
/-- a rule that there is, or none -/
def isRl (nr : Nat) (x : Int32) : Prop := x = -1 ∨ ∃ r, r < nr ∧ x = nI r
def rD (x j : Nat) : Prop := x = 435 ∨ x = 437 ∨ x = 438 ∨ x = 440 ∨ (x = 419 ∧ 35 ≤ j ∧ j ≤ 40)
def DAr (s : sg) (t : dT) : Prop := s.1 419 35 = t.2.1 ∧ (∀ k, k < 8 → s.1 440 k = t.2.2.1 k) ∧ s.1 419 37 = t.2.2.2.1 ∧ s.1 419 38 = t.2.2.2.2.1 ∧ s.1 419 39 = t.2.2.2.2.2.1 ∧ s.1 419 40 = t.2.2.2.2.2.2
theorem DAr_fr {Q : Nat → Nat → Prop} {s s' : sg} {t : dT} (h : DAr s t) (f : Fr Q s s') (h1 : ∀ j, 35 ≤ j → j ≤ 40 → ¬ Q 419 j) (h2 : ∀ j, ¬ Q 440 j) : DAr s' t :=
  ⟨(f.1 _ _ (h1 _ (by omega) (by omega))).trans h.1, fun k hk => (f.1 _ _ (h2 _)).trans (h.2.1 k hk), (f.1 _ _ (h1 _ (by omega) (by omega))).trans h.2.2.1, (f.1 _ _ (h1 _ (by omega) (by omega))).trans h.2.2.2.1, (f.1 _ _ (h1 _ (by omega) (by omega))).trans h.2.2.2.2.1, (f.1 _ _ (h1 _ (by omega) (by omega))).trans h.2.2.2.2.2⟩
section RD
variable {N : Nat} {s : sg} {P : pln} {st : Nat → Int32} {K : Nat → Bool} {n D mv k m nr : Nat} {q : Nat → Int32} {b : Nat → Nat} {x : Int32}
theorem r_worthBy (hN1 : 1000 ≤ N) (W : Wp P n D mv) (Z : Ws st n D) (R : Wr nr q b) (hV : RV s P st K D) (hR : RR s nr q b) (hx : isRl nr x) (hk : k < n) (hm : nowN st < D) : ∃ s', fX12_worthBy N 419 x (nI k) (mk s) = some (.inl (gvl P K D q b x st k), mk s') ∧ Fr (fun a _ => a = 437 ∨ a = 438) s s' := by
  have hn8 := W.1
  have hD := W.2.2.2.1
  obtain ⟨⟨h0, h0'⟩, _⟩ := Ws_n Z W.1 W.2.2.2.1
  unfold fX12_worthBy bX12_worthBy_0 gvl
  rcases hx with rfl | ⟨r, hr, rfl⟩
  · rw [if_neg (fun q => q rfl), if_pos rfl]
    exact ⟨s, rfl, Fr_r _ _⟩
  · have hr4 := R.1
    obtain ⟨b1, b2, b3⟩ := R.2.2 r hr
    obtain ⟨c1, c2, c3⟩ := hR r hr
    rw [if_pos (m1_ne (by omega)), if_neg (m1_ne (by omega)), nI_clamp (show r < 2 ^ 31 by omega)]
    have ik : inB (nI k) 16 = true := inA_nI (by omega) (by omega)
    have ir : inB (nI r) 8 = true := inA_nI (by omega) (by omega)
    have i7 : inB (7 + nI k) 15 = true := by rw [show (7 : Int32) = nI 7 from rfl, nI_add]; exact inA_nI (by omega) (by omega)
    have c7 : (7 + nI k).toNatClampNeg = 7 + k := by rw [show (7 : Int32) = nI 7 from rfl, nI_add, nI_clamp (by omega)]
    have e0 : s.1 435 0 = nI (nowN st) := (hV.2.1 0 (by omega)).trans h0
    have e3 : s.1 425 k = P 3 k := hV.1 3 k (by omega) (by omega)
    have e1 : s.1 423 k = P 1 k := hV.1 1 k (by omega) (by omega)
    have e2 : s.1 424 k = P 2 k := hV.1 2 k (by omega) (by omega)
    have e5 : s.1 427 k = P 5 k := hV.1 5 k (by omega) (by omega)
    have e6 : s.1 435 3 = st 3 := hV.2.1 3 (by omega)
    have e7 : s.1 435 (7 + k) = st (7 + k) := hV.2.1 (7 + k) (by omega)
    have dv : dvI (nI (nowN st)) 60 = some (nI (nowN st / 60)) := dv_nI (b := 60) (by omega) (by omega) (by omega)
    have f1 : Fr (fun a _ => a = 437 ∨ a = 438) s (sI (sI (sI s 437 0 (P 3 k)) 437 1 (P 1 k)) 437 2 (P 2 k)) := Fr_t (Fr_t (Fr_sI (Or.inl rfl)) (Fr_sI (Or.inl rfl))) (Fr_sI (Or.inl rfl))
    have hV1 := RV_fr hV f1 (by intros; omega) (by intros; omega) (by omega)
    simp (decide := true) only [ob_s, cS_l, cS_r, gI_k, gR_k, pI_k, pR_k, cV_k, aI_k, tI_k, rZ_0, rZ_1, rZ_i, rf_12_0, rf_12_1, rf_12_3, rf_12_4, rf_12_5, rf_12_6, rf_12_7, rf_12_8, rf_12_9, rf_12_10, rf_12_11, rf_12_12, rf_12_13, rf_12_14, rf_12_15, rf_12_26, rf_12_27, rf_12_31, rf_12_32, rf_12_33, rf_12_34, rf_12_41, rf_12_44, rf_12_47, rf_12_48, rf_12_49, rf_12_51, rf_12_55, rf_12_56, rf_12_57, rf_12_58, rf_12_59, rf_12_60, Nat.reduceAdd, kc_419, kc_420, kc_421, kc_422, kc_423, kc_424, kc_425, kc_426, kc_427, kc_428, kc_429, kc_430, kc_431, kc_432, kc_433, kc_434, kc_435, kc_436, kc_437, kc_438, kc_439, kc_440, kc_441, kc_442, kc_443, kc_444, kc_445, kc_446, kc_447, kc_448, kc_449, kc_450, kc_451, kc_452, kc_453, kn_420, kn_421, kn_422, kn_423, kn_424, kn_425, kn_426, kn_427, kn_428, kn_429, kn_430, kn_431, kn_432, kn_433, kn_434, kn_435, kn_436, kn_437, kn_438, kn_439, kn_440, kn_441, kn_442, kn_443, kn_444, kn_445, kn_446, kn_447, kn_448, kn_449, kn_450, kn_451, kn_452, kn_453, nc_0, nc_1, nc_2, nc_3, nc_4, nc_5, nc_6, nc_7, e0, ik, nI_clamp (show k < 2 ^ 31 by omega), sI_c, Nat.reduceEqDiff, false_and, if_false, e3, e1, e2, r_stays hN1 hV1 hD hm, e5, dv, e6, i7, c7, e7]
    generalize hs2 : sI (sI (sI (sI (sI (sI (sI (sI s 437 0 (P 3 k)) 437 1 (P 1 k)) 437 2 (P 2 k)) 437 3 (nI (stays K D (nowN st)))) 437 4 (P 5 k - nI (nowN st) + 1)) 437 5 (nI (nowN st / 60))) 437 6 (st 3)) 437 7 (st (7 + k)) = s2
    have f2 : Fr (fun a _ => a = 437 ∨ a = 438) s s2 := by
      rw [← hs2]
      exact Fr_t (Fr_t (Fr_t (Fr_t (Fr_t f1 (Fr_sI (Or.inl rfl))) (Fr_sI (Or.inl rfl))) (Fr_sI (Or.inl rfl))) (Fr_sI (Or.inl rfl))) (Fr_sI (Or.inl rfl))
    have hv : ∀ j, j < 8 → s2.1 437 j = vls P st K D k j := fun j hj => by
      rw [← hs2]
      rcases (show j = 0 ∨ j = 1 ∨ j = 2 ∨ j = 3 ∨ j = 4 ∨ j = 5 ∨ j = 6 ∨ j = 7 by omega) with rfl | rfl | rfl | rfl | rfl | rfl | rfl | rfl <;> simp [sI_c, vls]
      rw [h0]
    obtain ⟨s3, g1, g2⟩ := m_val9 (N := N) (rr := r) (e := b (r + 1)) (q := q) (v := vls P st K D k) (by omega) b2 N (b r) 0 (s2.1 438) s2 (by omega) b1 b3 (by omega) (by rw [f2.1 _ _ (by omega)]; exact c2) (fun j hj => rfl) (fun j hj => by rw [f2.1 _ _ (by omega)]; exact c3 j hj) hv
    refine ⟨s3, ?_, Fr_t f2 (Fr_m g2 (by intros; omega))⟩
    have e430 : s2.1 430 r = nI (b r) := by rw [f2.1 _ _ (by omega)]; exact c1
    have hvb : fX12_valueBy N 419 (nI r) (mk s2) = some (.inl (evq q (vls P st K D k) (b (r + 1) - b r) (b r) 0 (s2.1 438)), mk s3) := by
      unfold fX12_valueBy bX12_valueBy_0
      simp (decide := true) only [ob_s, cS_l, cS_r, gI_k, gR_k, pI_k, pR_k, cV_k, aI_k, tI_k, rZ_0, rZ_1, rZ_i, rf_12_0, rf_12_1, rf_12_3, rf_12_4, rf_12_5, rf_12_6, rf_12_7, rf_12_8, rf_12_9, rf_12_10, rf_12_11, rf_12_12, rf_12_13, rf_12_14, rf_12_15, rf_12_26, rf_12_27, rf_12_31, rf_12_32, rf_12_33, rf_12_34, rf_12_41, rf_12_44, rf_12_47, rf_12_48, rf_12_49, rf_12_51, rf_12_55, rf_12_56, rf_12_57, rf_12_58, rf_12_59, rf_12_60, Nat.reduceAdd, kc_419, kc_420, kc_421, kc_422, kc_423, kc_424, kc_425, kc_426, kc_427, kc_428, kc_429, kc_430, kc_431, kc_432, kc_433, kc_434, kc_435, kc_436, kc_437, kc_438, kc_439, kc_440, kc_441, kc_442, kc_443, kc_444, kc_445, kc_446, kc_447, kc_448, kc_449, kc_450, kc_451, kc_452, kc_453, kn_420, kn_421, kn_422, kn_423, kn_424, kn_425, kn_426, kn_427, kn_428, kn_429, kn_430, kn_431, kn_432, kn_433, kn_434, kn_435, kn_436, kn_437, kn_438, kn_439, kn_440, kn_441, kn_442, kn_443, kn_444, kn_445, kn_446, kn_447, kn_448, kn_449, kn_450, kn_451, kn_452, kn_453, ir, nI_clamp (show r < 2 ^ 31 by omega), e430]
      exact g1
    simp (decide := true) only [ob_s, cS_l, cS_r, gI_k, gR_k, pI_k, pR_k, cV_k, aI_k, tI_k, rZ_0, rZ_1, rZ_i, rf_12_0, rf_12_1, rf_12_3, rf_12_4, rf_12_5, rf_12_6, rf_12_7, rf_12_8, rf_12_9, rf_12_10, rf_12_11, rf_12_12, rf_12_13, rf_12_14, rf_12_15, rf_12_26, rf_12_27, rf_12_31, rf_12_32, rf_12_33, rf_12_34, rf_12_41, rf_12_44, rf_12_47, rf_12_48, rf_12_49, rf_12_51, rf_12_55, rf_12_56, rf_12_57, rf_12_58, rf_12_59, rf_12_60, Nat.reduceAdd, kc_419, kc_420, kc_421, kc_422, kc_423, kc_424, kc_425, kc_426, kc_427, kc_428, kc_429, kc_430, kc_431, kc_432, kc_433, kc_434, kc_435, kc_436, kc_437, kc_438, kc_439, kc_440, kc_441, kc_442, kc_443, kc_444, kc_445, kc_446, kc_447, kc_448, kc_449, kc_450, kc_451, kc_452, kc_453, kn_420, kn_421, kn_422, kn_423, kn_424, kn_425, kn_426, kn_427, kn_428, kn_429, kn_430, kn_431, kn_432, kn_433, kn_434, kn_435, kn_436, kn_437, kn_438, kn_439, kn_440, kn_441, kn_442, kn_443, kn_444, kn_445, kn_446, kn_447, kn_448, kn_449, kn_450, kn_451, kn_452, kn_453, hvb]
    rw [evq_ex b3 (S' := fun _ => 0) (fun j hj => by omega)]
theorem r_pick7 (hN1 : 1000 ≤ N) (W : Wp P n D mv) (Z : Ws st n D) (R : Wr nr q b) (hx : isRl nr x) (hm : nowN st < D) : ∀ (f k : Nat) (bb mo : Int32) (s : sg), n - k < f → k ≤ n → RV s P st K D → RR s nr q b → ∃ s', lX12_pick_7 N f 419 x bb mo (nI k) (mk s) = some (.inl (pkf (fun k => sWhy P st K D k (nowN st)) (gvl P K D q b x st) (n - k) k bb mo), mk s') ∧ Fr (fun a _ => a = 437 ∨ a = 438) s s' := by
  have hn8 := W.1
  have hD := W.2.2.2.1
  obtain ⟨⟨h0, h0'⟩, _⟩ := Ws_n Z W.1 W.2.2.2.1
  intro f
  induction f with
  | zero => intro k bb mo s hf; omega
  | succ f ih =>
    intro k bb mo s hf hk hV hR
    show ∃ s', bX12_pick_7 N (lX12_pick_7 N f) 419 x bb mo (nI k) (mk s) = _ ∧ _
    unfold bX12_pick_7 bX12_pick_66
    have e0 : s.1 422 0 = nI n := (hV.1 0 0 (by omega) (by omega)).trans W.2.1
    have e1 : s.1 435 0 = nI (nowN st) := (hV.2.1 0 (by omega)).trans h0
    simp (decide := true) only [ob_s, cS_l, cS_r, gI_k, gR_k, pI_k, pR_k, cV_k, aI_k, tI_k, rZ_0, rZ_1, rZ_i, rf_12_0, rf_12_1, rf_12_3, rf_12_4, rf_12_5, rf_12_6, rf_12_7, rf_12_8, rf_12_9, rf_12_10, rf_12_11, rf_12_12, rf_12_13, rf_12_14, rf_12_15, rf_12_26, rf_12_27, rf_12_31, rf_12_32, rf_12_33, rf_12_34, rf_12_41, rf_12_44, rf_12_47, rf_12_48, rf_12_49, rf_12_51, rf_12_55, rf_12_56, rf_12_57, rf_12_58, rf_12_59, rf_12_60, Nat.reduceAdd, kc_419, kc_420, kc_421, kc_422, kc_423, kc_424, kc_425, kc_426, kc_427, kc_428, kc_429, kc_430, kc_431, kc_432, kc_433, kc_434, kc_435, kc_436, kc_437, kc_438, kc_439, kc_440, kc_441, kc_442, kc_443, kc_444, kc_445, kc_446, kc_447, kc_448, kc_449, kc_450, kc_451, kc_452, kc_453, kn_420, kn_421, kn_422, kn_423, kn_424, kn_425, kn_426, kn_427, kn_428, kn_429, kn_430, kn_431, kn_432, kn_433, kn_434, kn_435, kn_436, kn_437, kn_438, kn_439, kn_440, kn_441, kn_442, kn_443, kn_444, kn_445, kn_446, kn_447, kn_448, kn_449, kn_450, kn_451, kn_452, kn_453, nc_0, e0]
    by_cases c : n ≤ k
    · rw [if_pos (nI_le c (by omega)), show n - k = 0 by omega]
      exact ⟨s, rfl, Fr_r _ _⟩
    · rw [if_neg (nI_ge (by omega) (by omega))]
      obtain ⟨g, hg, hg2⟩ := sub1 (show k < n by omega)
      simp (decide := true) only [ob_s, cS_l, cS_r, gI_k, gR_k, pI_k, pR_k, cV_k, aI_k, tI_k, rZ_0, rZ_1, rZ_i, rf_12_0, rf_12_1, rf_12_3, rf_12_4, rf_12_5, rf_12_6, rf_12_7, rf_12_8, rf_12_9, rf_12_10, rf_12_11, rf_12_12, rf_12_13, rf_12_14, rf_12_15, rf_12_26, rf_12_27, rf_12_31, rf_12_32, rf_12_33, rf_12_34, rf_12_41, rf_12_44, rf_12_47, rf_12_48, rf_12_49, rf_12_51, rf_12_55, rf_12_56, rf_12_57, rf_12_58, rf_12_59, rf_12_60, Nat.reduceAdd, kc_419, kc_420, kc_421, kc_422, kc_423, kc_424, kc_425, kc_426, kc_427, kc_428, kc_429, kc_430, kc_431, kc_432, kc_433, kc_434, kc_435, kc_436, kc_437, kc_438, kc_439, kc_440, kc_441, kc_442, kc_443, kc_444, kc_445, kc_446, kc_447, kc_448, kc_449, kc_450, kc_451, kc_452, kc_453, kn_420, kn_421, kn_422, kn_423, kn_424, kn_425, kn_426, kn_427, kn_428, kn_429, kn_430, kn_431, kn_432, kn_433, kn_434, kn_435, kn_436, kn_437, kn_438, kn_439, kn_440, kn_441, kn_442, kn_443, kn_444, kn_445, kn_446, kn_447, kn_448, kn_449, kn_450, kn_451, kn_452, kn_453, nc_0, e1, r_why hV (show k < 8 by omega) (show nowN st < 480 by omega)]
      rw [hg, pkf_s]
      unfold bX12_pick_60
      rw [nI_1]
      by_cases c2 : sWhy P st K D k (nowN st) = 0
      · rw [if_pos c2]
        obtain ⟨s1, a1, a2⟩ := r_worthBy (N := N) hN1 W Z R hV hR hx (show k < n by omega) hm
        simp (decide := true) only [ob_s, cS_l, cS_r, gI_k, gR_k, pI_k, pR_k, cV_k, aI_k, tI_k, rZ_0, rZ_1, rZ_i, rf_12_0, rf_12_1, rf_12_3, rf_12_4, rf_12_5, rf_12_6, rf_12_7, rf_12_8, rf_12_9, rf_12_10, rf_12_11, rf_12_12, rf_12_13, rf_12_14, rf_12_15, rf_12_26, rf_12_27, rf_12_31, rf_12_32, rf_12_33, rf_12_34, rf_12_41, rf_12_44, rf_12_47, rf_12_48, rf_12_49, rf_12_51, rf_12_55, rf_12_56, rf_12_57, rf_12_58, rf_12_59, rf_12_60, Nat.reduceAdd, kc_419, kc_420, kc_421, kc_422, kc_423, kc_424, kc_425, kc_426, kc_427, kc_428, kc_429, kc_430, kc_431, kc_432, kc_433, kc_434, kc_435, kc_436, kc_437, kc_438, kc_439, kc_440, kc_441, kc_442, kc_443, kc_444, kc_445, kc_446, kc_447, kc_448, kc_449, kc_450, kc_451, kc_452, kc_453, kn_420, kn_421, kn_422, kn_423, kn_424, kn_425, kn_426, kn_427, kn_428, kn_429, kn_430, kn_431, kn_432, kn_433, kn_434, kn_435, kn_436, kn_437, kn_438, kn_439, kn_440, kn_441, kn_442, kn_443, kn_444, kn_445, kn_446, kn_447, kn_448, kn_449, kn_450, kn_451, kn_452, kn_453, a1]
        have hV1 := RV_fr hV a2 (by intros; omega) (by intros; omega) (by omega)
        have hR1 := RR_fr hR a2 (by intros; omega)
        by_cases c3 : mo < gvl P K D q b x st k
        · rw [if_pos c3, if_pos ⟨c2, c3⟩]
          obtain ⟨s2, b1, b2⟩ := ih (k + 1) (nI k) (gvl P K D q b x st k) s1 (by omega) (by omega) hV1 hR1
          rw [hg2] at b1
          exact ⟨s2, b1, Fr_t a2 b2⟩
        · rw [if_neg c3, if_neg (fun q => c3 q.2)]
          obtain ⟨s2, b1, b2⟩ := ih (k + 1) bb mo s1 (by omega) (by omega) hV1 hR1
          rw [hg2] at b1
          exact ⟨s2, b1, Fr_t a2 b2⟩
      · rw [if_neg c2, if_neg (fun q => c2 q.1)]
        obtain ⟨s2, b1, b2⟩ := ih (k + 1) bb mo s (by omega) (by omega) hV hR
        rw [hg2] at b1
        exact ⟨s2, b1, b2⟩
theorem r_isSome2 (W : Wp P n D mv) (hV : RV s P st K D) (bo : Bool) : ∀ (f k : Nat), n - k < f → k ≤ n → sme P st bo k = false → lX12_isSome_2 N f 419 (sk_i bo) (nI k) (mk s) = some (.inl (sk_i (sme P st bo n)), mk s) := by
  have hn8 := W.1
  intro f
  induction f with
  | zero => intro k hf; omega
  | succ f ih =>
    intro k hf hk hs0
    show bX12_isSome_2 N (lX12_isSome_2 N f) 419 (sk_i bo) (nI k) (mk s) = _
    have e0 : s.1 422 0 = nI n := (hV.1 0 0 (by omega) (by omega)).trans W.2.1
    have e2 : s.1 435 2 = st 2 := hV.2.1 2 (by omega)
    unfold bX12_isSome_2
    simp (decide := true) only [ob_s, cS_l, cS_r, gI_k, gR_k, pI_k, pR_k, cV_k, aI_k, tI_k, rZ_0, rZ_1, rZ_i, rf_12_0, rf_12_1, rf_12_3, rf_12_4, rf_12_5, rf_12_6, rf_12_7, rf_12_8, rf_12_9, rf_12_10, rf_12_11, rf_12_12, rf_12_13, rf_12_14, rf_12_15, rf_12_26, rf_12_27, rf_12_31, rf_12_32, rf_12_33, rf_12_34, rf_12_41, rf_12_44, rf_12_47, rf_12_48, rf_12_49, rf_12_51, rf_12_55, rf_12_56, rf_12_57, rf_12_58, rf_12_59, rf_12_60, Nat.reduceAdd, kc_419, kc_420, kc_421, kc_422, kc_423, kc_424, kc_425, kc_426, kc_427, kc_428, kc_429, kc_430, kc_431, kc_432, kc_433, kc_434, kc_435, kc_436, kc_437, kc_438, kc_439, kc_440, kc_441, kc_442, kc_443, kc_444, kc_445, kc_446, kc_447, kc_448, kc_449, kc_450, kc_451, kc_452, kc_453, kn_420, kn_421, kn_422, kn_423, kn_424, kn_425, kn_426, kn_427, kn_428, kn_429, kn_430, kn_431, kn_432, kn_433, kn_434, kn_435, kn_436, kn_437, kn_438, kn_439, kn_440, kn_441, kn_442, kn_443, kn_444, kn_445, kn_446, kn_447, kn_448, kn_449, kn_450, kn_451, kn_452, kn_453, nc_0, e0]
    by_cases c : n ≤ k
    · rw [if_pos (nI_le c (by omega))]
      have : k = n := by omega
      subst this
      rw [hs0]; rfl
    · rw [if_neg (nI_ge (by omega) (by omega))]
      have e6 : s.1 428 k = P 6 k := hV.1 6 k (by omega) (by omega)
      have e1 : s.1 423 k = P 1 k := hV.1 1 k (by omega) (by omega)
      have ik : inB (nI k) 16 = true := inA_nI (by omega) (by omega)
      simp (decide := true) only [ob_s, cS_l, cS_r, gI_k, gR_k, pI_k, pR_k, cV_k, aI_k, tI_k, rZ_0, rZ_1, rZ_i, rf_12_0, rf_12_1, rf_12_3, rf_12_4, rf_12_5, rf_12_6, rf_12_7, rf_12_8, rf_12_9, rf_12_10, rf_12_11, rf_12_12, rf_12_13, rf_12_14, rf_12_15, rf_12_26, rf_12_27, rf_12_31, rf_12_32, rf_12_33, rf_12_34, rf_12_41, rf_12_44, rf_12_47, rf_12_48, rf_12_49, rf_12_51, rf_12_55, rf_12_56, rf_12_57, rf_12_58, rf_12_59, rf_12_60, Nat.reduceAdd, kc_419, kc_420, kc_421, kc_422, kc_423, kc_424, kc_425, kc_426, kc_427, kc_428, kc_429, kc_430, kc_431, kc_432, kc_433, kc_434, kc_435, kc_436, kc_437, kc_438, kc_439, kc_440, kc_441, kc_442, kc_443, kc_444, kc_445, kc_446, kc_447, kc_448, kc_449, kc_450, kc_451, kc_452, kc_453, kn_420, kn_421, kn_422, kn_423, kn_424, kn_425, kn_426, kn_427, kn_428, kn_429, kn_430, kn_431, kn_432, kn_433, kn_434, kn_435, kn_436, kn_437, kn_438, kn_439, kn_440, kn_441, kn_442, kn_443, kn_444, kn_445, kn_446, kn_447, kn_448, kn_449, kn_450, kn_451, kn_452, kn_453, nc_2, e2, m_isOf, sb_eq0, ik, nI_clamp (show k < 2 ^ 31 by omega), e6]
      have on : sme P st bo (k + 1) = false → bX12_isSome_84 N (lX12_isSome_2 N f) 419 (sk_i bo) (nI k) (mk s) = some (.inl (sk_i (sme P st bo n)), mk s) := fun h => by
        unfold bX12_isSome_84
        rw [nI_1]
        exact ih (k + 1) (by omega) (by omega) h
      have f57 : opk P st k = false → bX12_isSome_57 N (lX12_isSome_2 N f) 419 (sk_i bo) (nI k) (mk s) = some (.inl (sk_i (sme P st bo n)), mk s) := fun h => by
        unfold bX12_isSome_57 bX12_isSome_58
        rw [if_pos rfl]
        refine on ?_
        rw [sme_s, hs0, h]; rfl
      have mono : ∀ j, sme P st bo (k + 1) = true → k + 1 ≤ j → sme P st bo j = true := by
        intro j h1 hj
        induction j with
        | zero => omega
        | succ j ihj =>
          by_cases e : k + 1 = j + 1
          · rw [← e]; exact h1
          · rw [sme_s, ihj (by omega)]; rfl
      have f53 : opk P st k = true → bX12_isSome_53 N (lX12_isSome_2 N f) 419 (sk_i bo) (nI k) (mk s) = some (.inl (sk_i (sme P st bo n)), mk s) := fun h => by
        unfold bX12_isSome_53 bX12_isSome_58
        rw [if_neg (by decide)]
        simp (decide := true) only [ob_s, cS_l, cS_r, gI_k, gR_k, pI_k, pR_k, cV_k, aI_k, tI_k, rZ_0, rZ_1, rZ_i, rf_12_0, rf_12_1, rf_12_3, rf_12_4, rf_12_5, rf_12_6, rf_12_7, rf_12_8, rf_12_9, rf_12_10, rf_12_11, rf_12_12, rf_12_13, rf_12_14, rf_12_15, rf_12_26, rf_12_27, rf_12_31, rf_12_32, rf_12_33, rf_12_34, rf_12_41, rf_12_44, rf_12_47, rf_12_48, rf_12_49, rf_12_51, rf_12_55, rf_12_56, rf_12_57, rf_12_58, rf_12_59, rf_12_60, Nat.reduceAdd, kc_419, kc_420, kc_421, kc_422, kc_423, kc_424, kc_425, kc_426, kc_427, kc_428, kc_429, kc_430, kc_431, kc_432, kc_433, kc_434, kc_435, kc_436, kc_437, kc_438, kc_439, kc_440, kc_441, kc_442, kc_443, kc_444, kc_445, kc_446, kc_447, kc_448, kc_449, kc_450, kc_451, kc_452, kc_453, kn_420, kn_421, kn_422, kn_423, kn_424, kn_425, kn_426, kn_427, kn_428, kn_429, kn_430, kn_431, kn_432, kn_433, kn_434, kn_435, kn_436, kn_437, kn_438, kn_439, kn_440, kn_441, kn_442, kn_443, kn_444, kn_445, kn_446, kn_447, kn_448, kn_449, kn_450, kn_451, kn_452, kn_453, ik, nI_clamp (show k < 2 ^ 31 by omega), e1]
        have fin : ∀ y : Bool, decide (P 1 k = 2) = y → bX12_isSome_78 N (lX12_isSome_2 N f) 419 (sk_i bo) (nI k) (sk_i y) (mk s) = some (.inl (sk_i (sme P st bo n)), mk s) := fun y hy => by
          unfold bX12_isSome_78
          by_cases c3 : y = bo
          · rw [if_neg (fun q => q (by rw [c3]))]
            have : sme P st bo (k + 1) = true := by rw [sme_s, h, hy, c3]; simp
            rw [mono n this (by omega)]; rfl
          · rw [if_pos (fun q => c3 (sk_inj.mp q))]
            refine on ?_
            rw [sme_s, hs0, hy]
            cases y <;> cases bo <;> first | exact absurd rfl c3 | simp
        by_cases c4 : P 1 k = 2
        · rw [if_neg (fun q => q c4)]
          exact fin true (decide_eq_true c4)
        · rw [if_pos c4]
          exact fin false (decide_eq_false c4)
      have hb1 : sBit (st 2) (nI k) = decide ((st 2 >>> (nI k &&& 31)) &&& 1 = 1) := rfl
      by_cases c5 : (st 2 >>> (nI k &&& 31)) &&& 1 = 1
      · rw [if_pos (fun q => q c5)]
        refine f57 ?_
        unfold opk
        rw [hb1, decide_eq_true c5]; rfl
      · rw [if_neg (fun q => q c5)]
        by_cases c6 : P 6 k = -1
        · rw [if_pos c6]
          refine f53 ?_
          unfold opk
          rw [hb1, decide_eq_false c5, decide_eq_true c6]; rfl
        · rw [if_neg c6]
          have hb2 : sBit (st 2) (P 6 k) = decide ((st 2 >>> (P 6 k &&& 31)) &&& 1 = 1) := rfl
          by_cases c7 : (st 2 >>> (P 6 k &&& 31)) &&& 1 = 1
          · rw [if_neg (fun q => q c7)]
            refine f53 ?_
            unfold opk
            rw [hb1, decide_eq_false c5, hb2, decide_eq_true c7]; simp
          · rw [if_pos c7]
            refine f57 ?_
            unfold opk
            rw [hb1, decide_eq_false c5, hb2, decide_eq_false c7, decide_eq_false c6]; rfl
theorem r_isSome (hN1 : 1000 ≤ N) (W : Wp P n D mv) (hV : RV s P st K D) (bo : Bool) : fX12_isSome N 419 (sk_i bo) (mk s) = some (.inl (sk_i (sme P st bo n)), mk s) := r_isSome2 W hV bo N 0 (by have := W.1; omega) (by omega) rfl
theorem RV_st {st' : Nat → Int32} {f : Nat → Int32} (h : RV s P st K D) (hf : ∀ j, j < 15 → f j = st' j) : RV (sA s 435 f) P st' K D := ⟨fun g k hg hk => by rw [sA_ne _ _ _ (by omega)]; exact h.1 g k hg hk, fun j hj => by rw [sA_at]; exact hf j hj, fun m hm => by rw [sA_ne _ _ _ (by omega)]; exact h.2.2.1 m hm, by rw [sA_ne _ _ _ (by omega)]; exact h.2.2.2⟩
theorem r_stepBy {t : dT} (hN1 : 1000 ≤ N) (W : Wp P n D mv) (Z : Ws t.1 n D) (R : Wr nr q b) (hx : isRl nr x) (hm : nowN t.1 < D) (hV : RV s P t.1 K D) (hR : RR s nr q b) (hA : DAr s t) : ∃ s', fX12_stepBy N 419 x (mk s) = some (.inl (), mk s') ∧ RV s' P (dSt P K n D mv (gvl P K D q b x) t).1 K D ∧ DAr s' (dSt P K n D mv (gvl P K D q b x) t) ∧ Fr rD s s' := by
  have hn8 := W.1
  have hD := W.2.2.2.1
  have hmv := W.2.2.2.2.2.1
  obtain ⟨⟨h0, h0'⟩, ⟨h1, h1'⟩, _⟩ := Ws_n Z W.1 W.2.2.2.1
  obtain ⟨s1, a1, a2⟩ := r_pick7 (N := N) hN1 W Z R hx hm N 0 (-1) 0 s (by omega) (by omega) hV hR
  have hV1 := RV_fr hV a2 (by intros; omega) (by intros; omega) (by omega)
  have hA1 := DAr_fr hA a2 (by intros; omega) (by intros; omega)
  have hpk : fX12_pick N 419 x (mk s) = some (.inl (dPk P K n D (gvl P K D q b x) t.1), mk s1) := a1
  have fr1 : Fr rD s s1 := Fr_m a2 (fun a j q => by unfold rD; omega)
  have e1 : s1.1 435 1 = t.1 1 := hV1.2.1 1 (by omega)
  have e0 : s1.1 435 0 = t.1 0 := hV1.2.1 0 (by omega)
  have e3 : s1.1 435 3 = t.1 3 := hV1.2.1 3 (by omega)
  have e22 : s1.1 422 2 = nI mv := (hV1.1 0 2 (by omega) (by omega)).trans W.2.2.2.2.2.2.1
  have goal21 : ∃ s', bX12_stepBy_21 N 419 (dPk P K n D (gvl P K D q b x) t.1) (sk_i (isI t.1)) (mk s1) = some (.inl (), mk s') ∧ RV s' P (dSt P K n D mv (gvl P K D q b x) t).1 K D ∧ DAr s' (dSt P K n D mv (gvl P K D q b x) t) ∧ Fr rD s s' := by
    unfold bX12_stepBy_21
    unfold dSt
    rcases dPk_c (g := gvl P K D q b x) (K := K) W Z hm with hq | ⟨k, hk, hq, hmk, hwy⟩
    · rw [hq, if_pos rfl, if_pos rfl]
      simp (decide := true) only [ob_s, cS_l, cS_r, gI_k, gR_k, pI_k, pR_k, cV_k, aI_k, tI_k, rZ_0, rZ_1, rZ_i, rf_12_0, rf_12_1, rf_12_3, rf_12_4, rf_12_5, rf_12_6, rf_12_7, rf_12_8, rf_12_9, rf_12_10, rf_12_11, rf_12_12, rf_12_13, rf_12_14, rf_12_15, rf_12_26, rf_12_27, rf_12_31, rf_12_32, rf_12_33, rf_12_34, rf_12_41, rf_12_44, rf_12_47, rf_12_48, rf_12_49, rf_12_51, rf_12_55, rf_12_56, rf_12_57, rf_12_58, rf_12_59, rf_12_60, Nat.reduceAdd, kc_419, kc_420, kc_421, kc_422, kc_423, kc_424, kc_425, kc_426, kc_427, kc_428, kc_429, kc_430, kc_431, kc_432, kc_433, kc_434, kc_435, kc_436, kc_437, kc_438, kc_439, kc_440, kc_441, kc_442, kc_443, kc_444, kc_445, kc_446, kc_447, kc_448, kc_449, kc_450, kc_451, kc_452, kc_453, kn_420, kn_421, kn_422, kn_423, kn_424, kn_425, kn_426, kn_427, kn_428, kn_429, kn_430, kn_431, kn_432, kn_433, kn_434, kn_435, kn_436, kn_437, kn_438, kn_439, kn_440, kn_441, kn_442, kn_443, kn_444, kn_445, kn_446, kn_447, kn_448, kn_449, kn_450, kn_451, kn_452, kn_453, r_isSome hN1 W hV1, sk_0]
      -- one waits
      have wait : (¬ (sme P t.1 (isI t.1) n = false ∧ sme P t.1 (!isI t.1) n = true ∧ nowN t.1 + mv < D)) → ∃ s', bX12_stepBy_156 N 419 (mk s1) = some (.inl (), mk s') ∧ RV s' P (dGo P n D mv t).1 K D ∧ DAr s' (dGo P n D mv t) ∧ Fr rD s s' := by
        intro hno
        unfold dGo
        rw [if_neg hno]
        have f2 : Fr (fun a j => a = 435 ∨ (a = 419 ∧ j = 39)) s1 (sI (sI (sI s1 435 0 (t.1 0 + 1)) 435 3 (t.1 3 + 1)) 419 39 (t.2.2.2.2.2.1 + 1)) := Fr_t (Fr_t (Fr_sI (Or.inl rfl)) (Fr_sI (Or.inl rfl))) (Fr_sI (Or.inr ⟨rfl, rfl⟩))
        refine ⟨sI (sI (sI s1 435 0 (t.1 0 + 1)) 435 3 (t.1 3 + 1)) 419 39 (t.2.2.2.2.2.1 + 1), ?_, ⟨?_, ?_, ?_, ?_⟩, ?_, Fr_t fr1 (Fr_m f2 (fun a j q => by unfold rD; omega))⟩
        · unfold bX12_stepBy_156
          simp (decide := true) only [ob_s, cS_l, cS_r, gI_k, gR_k, pI_k, pR_k, cV_k, aI_k, tI_k, rZ_0, rZ_1, rZ_i, rf_12_0, rf_12_1, rf_12_3, rf_12_4, rf_12_5, rf_12_6, rf_12_7, rf_12_8, rf_12_9, rf_12_10, rf_12_11, rf_12_12, rf_12_13, rf_12_14, rf_12_15, rf_12_26, rf_12_27, rf_12_31, rf_12_32, rf_12_33, rf_12_34, rf_12_41, rf_12_44, rf_12_47, rf_12_48, rf_12_49, rf_12_51, rf_12_55, rf_12_56, rf_12_57, rf_12_58, rf_12_59, rf_12_60, Nat.reduceAdd, kc_419, kc_420, kc_421, kc_422, kc_423, kc_424, kc_425, kc_426, kc_427, kc_428, kc_429, kc_430, kc_431, kc_432, kc_433, kc_434, kc_435, kc_436, kc_437, kc_438, kc_439, kc_440, kc_441, kc_442, kc_443, kc_444, kc_445, kc_446, kc_447, kc_448, kc_449, kc_450, kc_451, kc_452, kc_453, kn_420, kn_421, kn_422, kn_423, kn_424, kn_425, kn_426, kn_427, kn_428, kn_429, kn_430, kn_431, kn_432, kn_433, kn_434, kn_435, kn_436, kn_437, kn_438, kn_439, kn_440, kn_441, kn_442, kn_443, kn_444, kn_445, kn_446, kn_447, kn_448, kn_449, kn_450, kn_451, kn_452, kn_453, nc_0, nc_3, sI_c, Nat.reduceEqDiff, false_and, and_false, if_false, e0, e3, hA1.2.2.2.2.1]
        · intro f k hf hk
          rw [f2.1 _ _ (by omega)]; exact hV1.1 f k hf hk
        · intro j hj
          show _ = sWt t.1 1 j
          unfold sWt
          rw [sI_1, if_neg (by omega), sI_1]
          by_cases c3 : j = 3
          · rw [if_pos ⟨rfl, c3⟩, if_neg (by omega), if_pos c3]
          · rw [if_neg (fun q => c3 q.2), sI_1]
            by_cases c0 : j = 0
            · rw [if_pos ⟨rfl, c0⟩, if_pos c0]
            · rw [if_neg (fun q => c0 q.2), if_neg c0, if_neg c3]; exact hV1.2.1 j hj
        · intro m hm
          rw [f2.1 _ _ (by omega)]; exact hV1.2.2.1 m hm
        · rw [f2.1 _ _ (by omega)]; exact hV1.2.2.2
        · refine ⟨?_, fun k hk => ?_, ?_, ?_, ?_, ?_⟩
          · rw [f2.1 _ _ (by omega)]; exact hA1.1
          · rw [f2.1 _ _ (by omega)]; exact hA1.2.1 k hk
          · rw [f2.1 _ _ (by omega)]; exact hA1.2.2.1
          · rw [f2.1 _ _ (by omega)]; exact hA1.2.2.2.1
          · rw [sI_1, if_pos ⟨rfl, rfl⟩]
          · rw [f2.1 _ _ (by omega)]; exact hA1.2.2.2.2.2
      have c113 : sme P t.1 (isI t.1) n = false → ∀ y : Bool, y = (!isI t.1) → ∃ s', bX12_stepBy_113 N 419 419 (sk_i y) (mk s1) = some (.inl (), mk s') ∧ RV s' P (dGo P n D mv t).1 K D ∧ DAr s' (dGo P n D mv t) ∧ Fr rD s s' := by
        intro hn0 y hy
        subst hy
        unfold bX12_stepBy_113
        simp (decide := true) only [ob_s, cS_l, cS_r, gI_k, gR_k, pI_k, pR_k, cV_k, aI_k, tI_k, rZ_0, rZ_1, rZ_i, rf_12_0, rf_12_1, rf_12_3, rf_12_4, rf_12_5, rf_12_6, rf_12_7, rf_12_8, rf_12_9, rf_12_10, rf_12_11, rf_12_12, rf_12_13, rf_12_14, rf_12_15, rf_12_26, rf_12_27, rf_12_31, rf_12_32, rf_12_33, rf_12_34, rf_12_41, rf_12_44, rf_12_47, rf_12_48, rf_12_49, rf_12_51, rf_12_55, rf_12_56, rf_12_57, rf_12_58, rf_12_59, rf_12_60, Nat.reduceAdd, kc_419, kc_420, kc_421, kc_422, kc_423, kc_424, kc_425, kc_426, kc_427, kc_428, kc_429, kc_430, kc_431, kc_432, kc_433, kc_434, kc_435, kc_436, kc_437, kc_438, kc_439, kc_440, kc_441, kc_442, kc_443, kc_444, kc_445, kc_446, kc_447, kc_448, kc_449, kc_450, kc_451, kc_452, kc_453, kn_420, kn_421, kn_422, kn_423, kn_424, kn_425, kn_426, kn_427, kn_428, kn_429, kn_430, kn_431, kn_432, kn_433, kn_434, kn_435, kn_436, kn_437, kn_438, kn_439, kn_440, kn_441, kn_442, kn_443, kn_444, kn_445, kn_446, kn_447, kn_448, kn_449, kn_450, kn_451, kn_452, kn_453, r_isSome hN1 W hV1, sk_0]
        cases hs1 : sme P t.1 (!isI t.1) n
        · rw [if_pos rfl]
          exact wait (fun q => by rw [hs1] at q; exact absurd q.2.1 (by decide))
        · rw [if_neg (by decide)]
          simp (decide := true) only [ob_s, cS_l, cS_r, gI_k, gR_k, pI_k, pR_k, cV_k, aI_k, tI_k, rZ_0, rZ_1, rZ_i, rf_12_0, rf_12_1, rf_12_3, rf_12_4, rf_12_5, rf_12_6, rf_12_7, rf_12_8, rf_12_9, rf_12_10, rf_12_11, rf_12_12, rf_12_13, rf_12_14, rf_12_15, rf_12_26, rf_12_27, rf_12_31, rf_12_32, rf_12_33, rf_12_34, rf_12_41, rf_12_44, rf_12_47, rf_12_48, rf_12_49, rf_12_51, rf_12_55, rf_12_56, rf_12_57, rf_12_58, rf_12_59, rf_12_60, Nat.reduceAdd, kc_419, kc_420, kc_421, kc_422, kc_423, kc_424, kc_425, kc_426, kc_427, kc_428, kc_429, kc_430, kc_431, kc_432, kc_433, kc_434, kc_435, kc_436, kc_437, kc_438, kc_439, kc_440, kc_441, kc_442, kc_443, kc_444, kc_445, kc_446, kc_447, kc_448, kc_449, kc_450, kc_451, kc_452, kc_453, kn_420, kn_421, kn_422, kn_423, kn_424, kn_425, kn_426, kn_427, kn_428, kn_429, kn_430, kn_431, kn_432, kn_433, kn_434, kn_435, kn_436, kn_437, kn_438, kn_439, kn_440, kn_441, kn_442, kn_443, kn_444, kn_445, kn_446, kn_447, kn_448, kn_449, kn_450, kn_451, kn_452, kn_453, nc_0, nc_2, e0, h0, e22, nI_add, hV1.2.2.2]
          by_cases c3 : D ≤ nowN t.1 + mv
          · rw [if_pos (nI_le c3 (by omega))]
            exact wait (fun q => by omega)
          · rw [if_neg (nI_ge (by omega) (by omega))]
            simp (decide := true) only [ob_s, cS_l, cS_r, gI_k, gR_k, pI_k, pR_k, cV_k, aI_k, tI_k, rZ_0, rZ_1, rZ_i, rf_12_0, rf_12_1, rf_12_3, rf_12_4, rf_12_5, rf_12_6, rf_12_7, rf_12_8, rf_12_9, rf_12_10, rf_12_11, rf_12_12, rf_12_13, rf_12_14, rf_12_15, rf_12_26, rf_12_27, rf_12_31, rf_12_32, rf_12_33, rf_12_34, rf_12_41, rf_12_44, rf_12_47, rf_12_48, rf_12_49, rf_12_51, rf_12_55, rf_12_56, rf_12_57, rf_12_58, rf_12_59, rf_12_60, Nat.reduceAdd, kc_419, kc_420, kc_421, kc_422, kc_423, kc_424, kc_425, kc_426, kc_427, kc_428, kc_429, kc_430, kc_431, kc_432, kc_433, kc_434, kc_435, kc_436, kc_437, kc_438, kc_439, kc_440, kc_441, kc_442, kc_443, kc_444, kc_445, kc_446, kc_447, kc_448, kc_449, kc_450, kc_451, kc_452, kc_453, kn_420, kn_421, kn_422, kn_423, kn_424, kn_425, kn_426, kn_427, kn_428, kn_429, kn_430, kn_431, kn_432, kn_433, kn_434, kn_435, kn_436, kn_437, kn_438, kn_439, kn_440, kn_441, kn_442, kn_443, kn_444, kn_445, kn_446, kn_447, kn_448, kn_449, kn_450, kn_451, kn_452, kn_453, m_moves, e22]
            unfold dGo
            rw [if_pos ⟨hn0, hs1, by omega⟩]
            have hV2 : RV (sA s1 435 (sMv (s1.1 435) (nI mv))) P (sMv t.1 (nI mv)) K D := RV_st hV1 (sMv_ex hV1.2.1 (nI mv))
            have f2 : Fr (fun a j => a = 435 ∨ (a = 419 ∧ j = 40)) s1 (sI (sA s1 435 (sMv (s1.1 435) (nI mv))) 419 40 (t.2.2.2.2.2.2 + 1)) := Fr_t (Fr_sA (fun j => Or.inl rfl)) (Fr_sI (Or.inr ⟨rfl, rfl⟩))
            have e40 : (sA s1 435 (sMv (s1.1 435) (nI mv))).1 419 40 = t.2.2.2.2.2.2 := by rw [sA_ne _ _ _ (by omega)]; exact hA1.2.2.2.2.2
            refine ⟨sI (sA s1 435 (sMv (s1.1 435) (nI mv))) 419 40 (t.2.2.2.2.2.2 + 1), by rw [e40], RV_fr hV2 (Fr_sI (D := fun a j => a = 419 ∧ j = 40) ⟨rfl, rfl⟩) (by intros; omega) (by intros; omega) (by omega), ?_, Fr_t fr1 (Fr_m f2 (fun a j q => by unfold rD; omega))⟩
            refine ⟨?_, fun k hk => ?_, ?_, ?_, ?_, ?_⟩
            · rw [f2.1 _ _ (by omega)]; exact hA1.1
            · rw [f2.1 _ _ (by omega)]; exact hA1.2.1 k hk
            · rw [f2.1 _ _ (by omega)]; exact hA1.2.2.1
            · rw [f2.1 _ _ (by omega)]; exact hA1.2.2.2.1
            · rw [f2.1 _ _ (by omega)]; exact hA1.2.2.2.2.1
            · rw [sI_1, if_pos ⟨rfl, rfl⟩]
      cases hs0 : sme P t.1 (isI t.1) n
      · rw [if_neg (fun q => q rfl)]
        cases hi : isI t.1
        · rw [if_neg (fun q => q rfl)]
          exact c113 (by exact hs0) true (by rw [hi]; rfl)
        · rw [if_pos (by decide)]
          exact c113 (by exact hs0) false (by rw [hi]; rfl)
      · rw [if_pos (by decide)]
        exact wait (fun q => by rw [hs0] at q; exact absurd q.1 (by decide))
    · -- a shot is taken
      rw [hq, if_neg (m1_ne (by omega)), if_neg (m1_ne (by omega)), nI_clamp (by omega)]
      have hl := (W.2.2.2.2.2.2.2 k hk).2.1.2
      have htk := r_takes (N := N) hN1 W hV1 hD hk hmk h0
      have ik : inB (nI k) 8 = true := inA_nI (by omega) (by omega)
      simp (decide := true) only [ob_s, cS_l, cS_r, gI_k, gR_k, pI_k, pR_k, cV_k, aI_k, tI_k, rZ_0, rZ_1, rZ_i, rf_12_0, rf_12_1, rf_12_3, rf_12_4, rf_12_5, rf_12_6, rf_12_7, rf_12_8, rf_12_9, rf_12_10, rf_12_11, rf_12_12, rf_12_13, rf_12_14, rf_12_15, rf_12_26, rf_12_27, rf_12_31, rf_12_32, rf_12_33, rf_12_34, rf_12_41, rf_12_44, rf_12_47, rf_12_48, rf_12_49, rf_12_51, rf_12_55, rf_12_56, rf_12_57, rf_12_58, rf_12_59, rf_12_60, Nat.reduceAdd, kc_419, kc_420, kc_421, kc_422, kc_423, kc_424, kc_425, kc_426, kc_427, kc_428, kc_429, kc_430, kc_431, kc_432, kc_433, kc_434, kc_435, kc_436, kc_437, kc_438, kc_439, kc_440, kc_441, kc_442, kc_443, kc_444, kc_445, kc_446, kc_447, kc_448, kc_449, kc_450, kc_451, kc_452, kc_453, kn_420, kn_421, kn_422, kn_423, kn_424, kn_425, kn_426, kn_427, kn_428, kn_429, kn_430, kn_431, kn_432, kn_433, kn_434, kn_435, kn_436, kn_437, kn_438, kn_439, kn_440, kn_441, kn_442, kn_443, kn_444, kn_445, kn_446, kn_447, kn_448, kn_449, kn_450, kn_451, kn_452, kn_453, htk, sk_0]
      generalize hng : sGo P t.1 K k (nowN t.1) (ln P k - 1) 1 = ng
      have hV2 : ∀ bb : Bool, RV (sA s1 435 (sTk (s1.1 435) k ng bb)) P (sTk t.1 k ng bb) K D := fun bb => RV_st hV1 (sTk_ex hV1.2.1 (by omega) bb)
      unfold dTk
      rw [hng]
      cases hen : sEn P t.1 K D k (nowN t.1) (ln P k)
      · rw [if_pos rfl, if_neg (by decide)]
        unfold bX12_stepBy_73 bX12_stepBy_88
        have e37 : (sA s1 435 (sTk (s1.1 435) k ng false)).1 419 37 = t.2.2.2.1 := by rw [sA_ne _ _ _ (by omega)]; exact hA1.2.2.1
        simp (decide := true) only [ob_s, cS_l, cS_r, gI_k, gR_k, pI_k, pR_k, cV_k, aI_k, tI_k, rZ_0, rZ_1, rZ_i, rf_12_0, rf_12_1, rf_12_3, rf_12_4, rf_12_5, rf_12_6, rf_12_7, rf_12_8, rf_12_9, rf_12_10, rf_12_11, rf_12_12, rf_12_13, rf_12_14, rf_12_15, rf_12_26, rf_12_27, rf_12_31, rf_12_32, rf_12_33, rf_12_34, rf_12_41, rf_12_44, rf_12_47, rf_12_48, rf_12_49, rf_12_51, rf_12_55, rf_12_56, rf_12_57, rf_12_58, rf_12_59, rf_12_60, Nat.reduceAdd, kc_419, kc_420, kc_421, kc_422, kc_423, kc_424, kc_425, kc_426, kc_427, kc_428, kc_429, kc_430, kc_431, kc_432, kc_433, kc_434, kc_435, kc_436, kc_437, kc_438, kc_439, kc_440, kc_441, kc_442, kc_443, kc_444, kc_445, kc_446, kc_447, kc_448, kc_449, kc_450, kc_451, kc_452, kc_453, kn_420, kn_421, kn_422, kn_423, kn_424, kn_425, kn_426, kn_427, kn_428, kn_429, kn_430, kn_431, kn_432, kn_433, kn_434, kn_435, kn_436, kn_437, kn_438, kn_439, kn_440, kn_441, kn_442, kn_443, kn_444, kn_445, kn_446, kn_447, kn_448, kn_449, kn_450, kn_451, kn_452, kn_453, e37, show sk_i false = 0 from rfl, if_true]
        have f2 : Fr (fun a j => a = 435 ∨ (a = 419 ∧ j = 37)) s1 (sI (sA s1 435 (sTk (s1.1 435) k ng false)) 419 37 (t.2.2.2.1 + 1)) := Fr_t (Fr_sA (fun j => Or.inl rfl)) (Fr_sI (Or.inr ⟨rfl, rfl⟩))
        refine ⟨_, rfl, RV_fr (hV2 false) (Fr_sI (D := fun a j => a = 419 ∧ j = 37) ⟨rfl, rfl⟩) (by intros; omega) (by intros; omega) (by omega), ?_, Fr_t fr1 (Fr_m f2 (fun a j q => by unfold rD; omega))⟩
        refine ⟨?_, fun k hk => ?_, ?_, ?_, ?_, ?_⟩
        · rw [f2.1 _ _ (by omega)]; exact hA1.1
        · rw [f2.1 _ _ (by omega)]; exact hA1.2.1 k hk
        · rw [sI_1, if_pos ⟨rfl, rfl⟩]
        · rw [f2.1 _ _ (by omega)]; exact hA1.2.2.2.1
        · rw [f2.1 _ _ (by omega)]; exact hA1.2.2.2.2.1
        · rw [f2.1 _ _ (by omega)]; exact hA1.2.2.2.2.2
      · rw [if_neg (by decide), if_pos rfl]
        unfold bX12_stepBy_73 bX12_stepBy_88
        have e35 : (sA s1 435 (sTk (s1.1 435) k ng true)).1 419 35 = t.2.1 := by rw [sA_ne _ _ _ (by omega)]; exact hA1.1
        have e37 : (sA s1 435 (sTk (s1.1 435) k ng true)).1 419 37 = t.2.2.2.1 := by rw [sA_ne _ _ _ (by omega)]; exact hA1.2.2.1
        have e00 : (sA s1 435 (sTk (s1.1 435) k ng true)).1 435 0 = t.1 0 + nI ng := by rw [sA_at]; show s1.1 435 0 + nI ng = _; rw [e0]
        simp (decide := true) only [ob_s, cS_l, cS_r, gI_k, gR_k, pI_k, pR_k, cV_k, aI_k, tI_k, rZ_0, rZ_1, rZ_i, rf_12_0, rf_12_1, rf_12_3, rf_12_4, rf_12_5, rf_12_6, rf_12_7, rf_12_8, rf_12_9, rf_12_10, rf_12_11, rf_12_12, rf_12_13, rf_12_14, rf_12_15, rf_12_26, rf_12_27, rf_12_31, rf_12_32, rf_12_33, rf_12_34, rf_12_41, rf_12_44, rf_12_47, rf_12_48, rf_12_49, rf_12_51, rf_12_55, rf_12_56, rf_12_57, rf_12_58, rf_12_59, rf_12_60, Nat.reduceAdd, kc_419, kc_420, kc_421, kc_422, kc_423, kc_424, kc_425, kc_426, kc_427, kc_428, kc_429, kc_430, kc_431, kc_432, kc_433, kc_434, kc_435, kc_436, kc_437, kc_438, kc_439, kc_440, kc_441, kc_442, kc_443, kc_444, kc_445, kc_446, kc_447, kc_448, kc_449, kc_450, kc_451, kc_452, kc_453, kn_420, kn_421, kn_422, kn_423, kn_424, kn_425, kn_426, kn_427, kn_428, kn_429, kn_430, kn_431, kn_432, kn_433, kn_434, kn_435, kn_436, kn_437, kn_438, kn_439, kn_440, kn_441, kn_442, kn_443, kn_444, kn_445, kn_446, kn_447, kn_448, kn_449, kn_450, kn_451, kn_452, kn_453, nc_0, ik, nI_clamp (show k < 2 ^ 31 by omega), sI_c, Nat.reduceEqDiff, false_and, and_false, if_false, e35, e37, e00, show ¬ (sk_i true = 0) by decide]
        have f2 : Fr (fun a j => a = 435 ∨ a = 440 ∨ (a = 419 ∧ (j = 35 ∨ j = 37 ∨ j = 38))) s1 (sI (sI (sI (sI (sA s1 435 (sTk (s1.1 435) k ng true)) 419 35 (t.2.1 ||| ((1 : Int32) <<< (nI k &&& 31)))) 440 k (t.1 0 + nI ng)) 419 38 (t.1 0 + nI ng)) 419 37 (t.2.2.2.1 + 0)) := Fr_t (Fr_t (Fr_t (Fr_t (Fr_sA (fun j => by omega)) (Fr_sI (by omega))) (Fr_sI (by omega))) (Fr_sI (by omega))) (Fr_sI (by omega))
        refine ⟨_, rfl, RV_fr (hV2 true) (Fr_t (Fr_t (Fr_t (Fr_sI (D := fun a j => a = 440 ∨ (a = 419 ∧ (j = 35 ∨ j = 37 ∨ j = 38))) (by omega)) (Fr_sI (by omega))) (Fr_sI (by omega))) (Fr_sI (by omega))) (by intros; omega) (by intros; omega) (by omega), ?_, Fr_t fr1 (Fr_m f2 (fun a j q => by unfold rD; omega))⟩
        refine ⟨?_, fun k' hk' => ?_, ?_, ?_, ?_, ?_⟩
        · rw [sI_1, if_neg (by omega), sI_1, if_neg (by omega), sI_1, if_neg (by omega), sI_1, if_pos ⟨rfl, rfl⟩]
        · show _ = up1 t.2.2.1 k (t.1 0 + nI ng) k'
          unfold up1
          rw [sI_1, if_neg (by omega), sI_1, if_neg (by omega), sI_1]
          by_cases c9 : k' = k
          · rw [if_pos ⟨rfl, c9⟩, if_pos c9]
          · rw [if_neg (fun q => c9 q.2), if_neg c9, sI_1, if_neg (by omega), sA_ne _ _ _ (by omega)]; exact hA1.2.1 k' hk'
        · rw [sI_1, if_pos ⟨rfl, rfl⟩]; exact Int32.add_zero _
        · rw [sI_1, if_neg (by omega), sI_1, if_pos ⟨rfl, rfl⟩]
        · rw [f2.1 _ _ (by omega)]; exact hA1.2.2.2.2.1
        · rw [f2.1 _ _ (by omega)]; exact hA1.2.2.2.2.2
  unfold fX12_stepBy bX12_stepBy_0
  simp (decide := true) only [ob_s, cS_l, cS_r, gI_k, gR_k, pI_k, pR_k, cV_k, aI_k, tI_k, rZ_0, rZ_1, rZ_i, rf_12_0, rf_12_1, rf_12_3, rf_12_4, rf_12_5, rf_12_6, rf_12_7, rf_12_8, rf_12_9, rf_12_10, rf_12_11, rf_12_12, rf_12_13, rf_12_14, rf_12_15, rf_12_26, rf_12_27, rf_12_31, rf_12_32, rf_12_33, rf_12_34, rf_12_41, rf_12_44, rf_12_47, rf_12_48, rf_12_49, rf_12_51, rf_12_55, rf_12_56, rf_12_57, rf_12_58, rf_12_59, rf_12_60, Nat.reduceAdd, kc_419, kc_420, kc_421, kc_422, kc_423, kc_424, kc_425, kc_426, kc_427, kc_428, kc_429, kc_430, kc_431, kc_432, kc_433, kc_434, kc_435, kc_436, kc_437, kc_438, kc_439, kc_440, kc_441, kc_442, kc_443, kc_444, kc_445, kc_446, kc_447, kc_448, kc_449, kc_450, kc_451, kc_452, kc_453, kn_420, kn_421, kn_422, kn_423, kn_424, kn_425, kn_426, kn_427, kn_428, kn_429, kn_430, kn_431, kn_432, kn_433, kn_434, kn_435, kn_436, kn_437, kn_438, kn_439, kn_440, kn_441, kn_442, kn_443, kn_444, kn_445, kn_446, kn_447, kn_448, kn_449, kn_450, kn_451, kn_452, kn_453, hpk, nc_1, e1]
  unfold isI at goal21
  by_cases c : t.1 1 = 1
  · rw [if_neg (fun q => q c)]
    rw [decide_eq_true c] at goal21
    exact goal21
  · rw [if_pos c]
    rw [decide_eq_false c] at goal21
    exact goal21
end RD
