/- needs: 56.acts2 -/
/-! the reference's acts -/
def RM (s : sg) (P : pln) (nr : Nat) (q : Nat → Int32) (b : Nat → Nat) (S : scn) : Prop := RU2 s P nr q b S.1 S.2.1 ∧ HsR s S.2.2.1.1 S.2.2.1.2.1 S.2.2.1.2.2 ∧ SnR s S.2.2.2.1.1 S.2.2.2.1.2.1 S.2.2.2.1.2.2.1 S.2.2.2.1.2.2.2 ∧ ∀ j, j < 3 → s.1 433 j = S.2.2.2.2 j
def rM (x j : Nat) : Prop := rS x j ∨ x = 436 ∨ x = 433 ∨ (443 ≤ x ∧ x ≤ 445) ∨ (x = 419 ∧ (j = 28 ∨ j = 29))
/-- the cells of the plan, of what is kept, seen, refused -/
def rP (x j : Nat) : Prop := (422 ≤ x ∧ x ≤ 428) ∨ (430 ≤ x ∧ x ≤ 433) ∨ x = 436 ∨ (443 ≤ x ∧ x ≤ 445) ∨ (x = 419 ∧ (j = 28 ∨ j = 29))
theorem SnR_fr {Q : Nat → Nat → Prop} {s s' : sg} {ns : Nat} {sh sm : Nat → Nat} {sv : Nat → Bool} (h : SnR s ns sh sm sv) (f : Fr Q s s') (h1 : ¬ Q 419 29) (hq : ∀ x j, 443 ≤ x → x ≤ 445 → ¬ Q x j) : SnR s' ns sh sm sv :=
  ⟨(f.1 _ _ h1).trans h.1, fun i hi => ⟨(f.1 _ _ (hq _ _ (by omega) (by omega))).trans (h.2 i hi).1, (f.1 _ _ (hq _ _ (by omega) (by omega))).trans (h.2 i hi).2.1, (f.1 _ _ (hq _ _ (by omega) (by omega))).trans (h.2 i hi).2.2⟩⟩
section RA
variable {N : Nat} {s : sg} {P : pln} {n D mv k m nr w u v : Nat} {q : Nat → Int32} {b : Nat → Nat} {S S' : scn} {on : Bool}
theorem RU2_g {Q : Nat → Nat → Prop} {s' : sg} {st st' : Nat → Int32} {K K' : Nat → Bool} (h : RU2 s P nr q b st K) (f : Fr Q s s') (hq : ∀ x j, (422 ≤ x ∧ x ≤ 428) ∨ (430 ≤ x ∧ x ≤ 432) → ¬ Q x j) (h5 : ∀ j, j < 15 → s'.1 435 j = st' j) (hK : mSky s' K') : RU2 s' P nr q b st' K' :=
  ⟨⟨fun g k hg hk => (f.1 _ _ (hq _ _ (by omega))).trans (h.1.1 g k hg hk), h5, hK⟩, RR_fr h.2.1 f (fun x j g1 g2 => hq x j (by omega)), (f.1 _ _ (hq _ _ (by omega))).trans h.2.2⟩
theorem RM_g {Q : Nat → Nat → Prop} {s' : sg} {st' : Nat → Int32} {K' : Nat → Bool} (h : RM s P nr q b S) (f : Fr Q s s') (hq : ∀ x j, rP x j → ¬ Q x j) (h5 : ∀ j, j < 15 → s'.1 435 j = st' j) (hK : mSky s' K') : RM s' P nr q b (st', K', S.2.2) := by
  have no : ∀ x j, (422 ≤ x ∧ x ≤ 428) ∨ (430 ≤ x ∧ x ≤ 433) ∨ x = 436 ∨ (443 ≤ x ∧ x ≤ 445) ∨ (x = 419 ∧ (j = 28 ∨ j = 29)) → ¬ Q x j := fun x j g => hq x j g
  exact ⟨RU2_g h.1 f (fun x j g => no x j (by omega)) h5 hK, HsR_fr h.2.1 f (no _ _ (by omega)) (fun j => no _ _ (by omega)), SnR_fr h.2.2.1 f (no _ _ (by omega)) (fun x j g1 g2 => no _ _ (by omega)), fun j hj => (f.1 _ _ (no _ _ (by omega))).trans (h.2.2.2 j hj)⟩
theorem RM_q {s' : sg} (h : RM s P nr q b S) (f : Fr rQ s s') : RM s' P nr q b S :=
  RM_g (st' := S.1) (K' := S.2.1) h f (fun x j g g2 => by unfold rP at g; unfold rQ at g2; omega) (fun j hj => (f.1 _ _ (fun g => by unfold rQ at g; omega)).trans (h.1.1.2.1 j hj)) (fun m hm => (f.1 _ _ (fun g => by unfold rQ at g; omega)).trans (h.1.1.2.2 m hm))
theorem RM_st {st' f : Nat → Int32} (h : RM s P nr q b S) (hf : ∀ j, j < 15 → f j = st' j) : RM (sA s 435 f) P nr q b (st', S.2.1, S.2.2) := by
  have f1 : Fr (fun x _ => x = 435) s (sA s 435 f) := Fr_sA (fun j => rfl)
  exact RM_g h f1 (fun x j g g2 => by unfold rP at g; omega) (fun j hj => by rw [sA_at]; exact hf j hj) (fun m hm => (f1.1 _ _ (by omega)).trans (h.1.1.2.2 m hm))
theorem r_keepS (hN2 : 2000 ≤ N) (h : RM s P nr q b S) (hna : S.2.2.1.1 ≤ 40) : ∃ s', fX12_keep N 419 (mk s) = some (.inl (), mk s') ∧ RM s' P nr q b (kpS S S.1 S.2.1) ∧ Fr (fun x j => x = 436 ∨ (x = 419 ∧ j = 28)) s s' := by
  obtain ⟨s', a1, a2, a3⟩ := r_keep (N := N) hN2 hna h.1.1.2.1 h.1.1.2.2 h.2.1
  refine ⟨s', a1, ⟨RU2_g h.1 a3 (fun x j g => by omega) (fun j hj => (a3.1 _ _ (by omega)).trans (h.1.1.2.1 j hj)) (fun m hm => (a3.1 _ _ (by omega)).trans (h.1.1.2.2 m hm)), a2, SnR_fr h.2.2.1 a3 (by omega) (by intros; omega), fun j hj => (a3.1 _ _ (by omega)).trans (h.2.2.2 j hj)⟩, a3⟩
theorem r_rfS (hw : w < 3) (h : RM s P nr q b S) : RM (sI s 433 w (s.1 433 w + 1)) P nr q b (rfS S w) ∧ (sI s 433 w (s.1 433 w + 1)).1 419 2 = s.1 419 2 ∧ Fr rM s (sI s 433 w (s.1 433 w + 1)) := by
  have f : Fr (fun y j => y = 433 ∧ j = w) s (sI s 433 w (s.1 433 w + 1)) := Fr_sI ⟨rfl, rfl⟩
  refine ⟨⟨RU2_g h.1 f (fun x j g => by omega) (fun j hj => (f.1 _ _ (by omega)).trans (h.1.1.2.1 j hj)) (fun m hm => (f.1 _ _ (by omega)).trans (h.1.1.2.2 m hm)), HsR_fr h.2.1 f (by omega) (by intros; omega), SnR_fr h.2.2.1 f (by omega) (by intros; omega), fun j hj => ?_⟩, f.1 _ _ (by omega), Fr_sI (by unfold rM; omega)⟩
  show (sI s 433 w (s.1 433 w + 1)).1 433 j = if j = w then S.2.2.2.2 w + 1 else S.2.2.2.2 j
  rw [sI_1]
  by_cases e : j = w
  · rw [if_pos ⟨rfl, e⟩, if_pos e, h.2.2.2 w hw]
  · rw [if_neg (fun g => e g.2), if_neg e]; exact h.2.2.2 j hj
theorem rQ_rM {x j : Nat} (h : rQ x j) : rM x j := Or.inl (Or.inl h)
theorem r_take (hN2 : 2000 ≤ N) (W : Wp P n D mv) (Z : WS n D S) (h : RM s P nr q b S) (hk : k < n) : ∃ s', fX12_take N 419 (nI k) (mk s) = some (.inl (pTake P D S k).1, mk s') ∧ s'.1 419 2 = 0 ∧ RM s' P nr q b (pTake P D S k).2 ∧ Fr rM s s' := by
  have hn8 := W.1
  have hD := W.2.2.2.1
  obtain ⟨⟨h0, h0'⟩, _⟩ := Ws_n Z.1 W.1 W.2.2.2.1
  obtain ⟨b1, b2, b3⟩ := r_begin h.1.1 W
  have eD : s.1 422 1 = nI D := (h.1.1.1 0 1 (by omega) (by omega)).trans W.2.2.2.2.1
  have e0 : s.1 435 0 = nI (nowN S.1) := (h.1.1.2.1 0 (by omega)).trans h0
  rw [eD] at b1 b2 b3
  generalize hs1 : sI (sI s 419 2 0) 419 30 (nI D) = s1 at b1 b2 b3
  have hm1 := RM_q h b3
  have hr : fX12_refuse N 419 1 (mk s1) = some (.inl (-1), mk (sI s1 433 1 (s1.1 433 1 + 1))) := m_refuse (w := 1) (by omega)
  obtain ⟨r1, r2, r3⟩ := r_rfS (w := 1) (by omega) hm1
  have fq : Fr rM s s1 := Fr_m b3 (fun x j => rQ_rM)
  unfold fX12_take bX12_take_0
  simp (decide := true) only [ob_s, cS_l, cS_r, gI_k, gR_k, pI_k, pR_k, cV_k, aI_k, tI_k, rZ_0, rZ_1, rZ_i, rf_12_0, rf_12_1, rf_12_3, rf_12_4, rf_12_5, rf_12_6, rf_12_7, rf_12_8, rf_12_9, rf_12_10, rf_12_11, rf_12_12, rf_12_13, rf_12_14, rf_12_15, rf_12_26, rf_12_27, rf_12_31, rf_12_32, rf_12_33, rf_12_34, rf_12_41, rf_12_44, rf_12_47, rf_12_48, rf_12_49, rf_12_51, rf_12_55, rf_12_56, rf_12_57, rf_12_58, rf_12_59, rf_12_60, Nat.reduceAdd, kc_419, kc_420, kc_421, kc_422, kc_423, kc_424, kc_425, kc_426, kc_427, kc_428, kc_429, kc_430, kc_431, kc_432, kc_433, kc_434, kc_435, kc_436, kc_437, kc_438, kc_439, kc_440, kc_441, kc_442, kc_443, kc_444, kc_445, kc_446, kc_447, kc_448, kc_449, kc_450, kc_451, kc_452, kc_453, kn_420, kn_421, kn_422, kn_423, kn_424, kn_425, kn_426, kn_427, kn_428, kn_429, kn_430, kn_431, kn_432, kn_433, kn_434, kn_435, kn_436, kn_437, kn_438, kn_439, kn_440, kn_441, kn_442, kn_443, kn_444, kn_445, kn_446, kn_447, kn_448, kn_449, kn_450, kn_451, kn_452, kn_453, r_isShot W h.1.1 hk, if_true, m_set, nc_0, nc_1]
  have eD1 : s1.1 422 1 = nI D := (hm1.1.1.1 0 1 (by omega) (by omega)).trans W.2.2.2.2.1
  have e01 : s1.1 435 0 = nI (nowN S.1) := (hm1.1.1.2.1 0 (by omega)).trans h0
  simp (decide := true) only [sI_c, Nat.reduceEqDiff, false_and, if_false, eD, e0, hs1, eD1, e01]
  have rf : bX12_take_52 N 419 (mk s1) = some (.inl (-1), mk (sI s1 433 1 (s1.1 433 1 + 1))) := by
    unfold bX12_take_52
    simp (decide := true) only [ob_s, cS_l, cS_r, gI_k, gR_k, pI_k, pR_k, cV_k, aI_k, tI_k, rZ_0, rZ_1, rZ_i, rf_12_0, rf_12_1, rf_12_3, rf_12_4, rf_12_5, rf_12_6, rf_12_7, rf_12_8, rf_12_9, rf_12_10, rf_12_11, rf_12_12, rf_12_13, rf_12_14, rf_12_15, rf_12_26, rf_12_27, rf_12_31, rf_12_32, rf_12_33, rf_12_34, rf_12_41, rf_12_44, rf_12_47, rf_12_48, rf_12_49, rf_12_51, rf_12_55, rf_12_56, rf_12_57, rf_12_58, rf_12_59, rf_12_60, Nat.reduceAdd, kc_419, kc_420, kc_421, kc_422, kc_423, kc_424, kc_425, kc_426, kc_427, kc_428, kc_429, kc_430, kc_431, kc_432, kc_433, kc_434, kc_435, kc_436, kc_437, kc_438, kc_439, kc_440, kc_441, kc_442, kc_443, kc_444, kc_445, kc_446, kc_447, kc_448, kc_449, kc_450, kc_451, kc_452, kc_453, kn_420, kn_421, kn_422, kn_423, kn_424, kn_425, kn_426, kn_427, kn_428, kn_429, kn_430, kn_431, kn_432, kn_433, kn_434, kn_435, kn_436, kn_437, kn_438, kn_439, kn_440, kn_441, kn_442, kn_443, kn_444, kn_445, kn_446, kn_447, kn_448, kn_449, kn_450, kn_451, kn_452, kn_453, hr]
  unfold pTake
  by_cases c : D ≤ nowN S.1
  · rw [if_pos (nI_le c (by omega)), if_neg (by omega), rf]
    exact ⟨_, rfl, r2.trans b2, r1, Fr_t fq r3⟩
  · rw [if_neg (nI_ge (by omega) (by omega))]
    simp (decide := true) only [ob_s, cS_l, cS_r, gI_k, gR_k, pI_k, pR_k, cV_k, aI_k, tI_k, rZ_0, rZ_1, rZ_i, rf_12_0, rf_12_1, rf_12_3, rf_12_4, rf_12_5, rf_12_6, rf_12_7, rf_12_8, rf_12_9, rf_12_10, rf_12_11, rf_12_12, rf_12_13, rf_12_14, rf_12_15, rf_12_26, rf_12_27, rf_12_31, rf_12_32, rf_12_33, rf_12_34, rf_12_41, rf_12_44, rf_12_47, rf_12_48, rf_12_49, rf_12_51, rf_12_55, rf_12_56, rf_12_57, rf_12_58, rf_12_59, rf_12_60, Nat.reduceAdd, kc_419, kc_420, kc_421, kc_422, kc_423, kc_424, kc_425, kc_426, kc_427, kc_428, kc_429, kc_430, kc_431, kc_432, kc_433, kc_434, kc_435, kc_436, kc_437, kc_438, kc_439, kc_440, kc_441, kc_442, kc_443, kc_444, kc_445, kc_446, kc_447, kc_448, kc_449, kc_450, kc_451, kc_452, kc_453, kn_420, kn_421, kn_422, kn_423, kn_424, kn_425, kn_426, kn_427, kn_428, kn_429, kn_430, kn_431, kn_432, kn_433, kn_434, kn_435, kn_436, kn_437, kn_438, kn_439, kn_440, kn_441, kn_442, kn_443, kn_444, kn_445, kn_446, kn_447, kn_448, kn_449, kn_450, kn_451, kn_452, kn_453, r_why b1 (show k < 8 by omega) (show nowN S.1 < 480 by omega)]
    by_cases c2 : sWhy P S.1 S.2.1 D k (nowN S.1) = 0
    · rw [if_pos c2, if_pos ⟨by omega, c2⟩]
      have hle := (why0 W hk (show nowN S.1 < D by omega) c2).1
      obtain ⟨s2, d1, d2, d3⟩ := r_keepS (N := N) hN2 hm1 Z.2.1
      have hV2 : RV s2 P S.1 S.2.1 D := RV_fr b1 d3 (by intros; omega) (by intros; omega) (by omega)
      have ht := r_takes (N := N) (k := k) (by omega) W hV2 hD hk hle h0
      simp (decide := true) only [ob_s, cS_l, cS_r, gI_k, gR_k, pI_k, pR_k, cV_k, aI_k, tI_k, rZ_0, rZ_1, rZ_i, rf_12_0, rf_12_1, rf_12_3, rf_12_4, rf_12_5, rf_12_6, rf_12_7, rf_12_8, rf_12_9, rf_12_10, rf_12_11, rf_12_12, rf_12_13, rf_12_14, rf_12_15, rf_12_26, rf_12_27, rf_12_31, rf_12_32, rf_12_33, rf_12_34, rf_12_41, rf_12_44, rf_12_47, rf_12_48, rf_12_49, rf_12_51, rf_12_55, rf_12_56, rf_12_57, rf_12_58, rf_12_59, rf_12_60, Nat.reduceAdd, kc_419, kc_420, kc_421, kc_422, kc_423, kc_424, kc_425, kc_426, kc_427, kc_428, kc_429, kc_430, kc_431, kc_432, kc_433, kc_434, kc_435, kc_436, kc_437, kc_438, kc_439, kc_440, kc_441, kc_442, kc_443, kc_444, kc_445, kc_446, kc_447, kc_448, kc_449, kc_450, kc_451, kc_452, kc_453, kn_420, kn_421, kn_422, kn_423, kn_424, kn_425, kn_426, kn_427, kn_428, kn_429, kn_430, kn_431, kn_432, kn_433, kn_434, kn_435, kn_436, kn_437, kn_438, kn_439, kn_440, kn_441, kn_442, kn_443, kn_444, kn_445, kn_446, kn_447, kn_448, kn_449, kn_450, kn_451, kn_452, kn_453, d1, ht, sk_0]
      have hm3 := RM_st (st' := sTk S.1 k (sGo P S.1 S.2.1 k (nowN S.1) (ln P k - 1) 1) (sEn P S.1 S.2.1 D k (nowN S.1) (ln P k))) d2 (sTk_ex (st := s2.1 435) (st' := S.1) (n := sGo P S.1 S.2.1 k (nowN S.1) (ln P k - 1) 1) hV2.2.1 (show k < 8 by omega) (sEn P S.1 S.2.1 D k (nowN S.1) (ln P k)))
      refine ⟨sA s2 435 (sTk (s2.1 435) k (sGo P S.1 S.2.1 k (nowN S.1) (ln P k - 1) 1) (sEn P S.1 S.2.1 D k (nowN S.1) (ln P k))), ?_, ?_, hm3, Fr_t (Fr_t fq (Fr_m d3 (fun x j g => by unfold rM; omega))) (Fr_sA (fun j => by unfold rM rS; omega))⟩
      · cases sEn P S.1 S.2.1 D k (nowN S.1) (ln P k)
        · rw [if_pos rfl]; rfl
        · rw [if_neg (by decide)]; rfl
      · rw [sA_ne _ _ _ (by omega), d3.1 _ _ (by omega)]; exact b2
    · rw [if_neg c2, if_neg (fun g => c2 g.2), rf]
      exact ⟨_, rfl, r2.trans b2, r1, Fr_t fq r3⟩
theorem r_take' {x : Int32} (W : Wp P n D mv) (h : RM s P nr q b S) (hx : ¬ (0 ≤ x ∧ x ≤ nI n - 1)) : fX12_take N 419 x (mk s) = some (.inl 0, mk (sI (sI s 419 2 0) 419 2 1)) := by
  unfold fX12_take bX12_take_0
  simp (decide := true) only [ob_s, cS_l, cS_r, gI_k, gR_k, pI_k, pR_k, cV_k, aI_k, tI_k, rZ_0, rZ_1, rZ_i, rf_12_0, rf_12_1, rf_12_3, rf_12_4, rf_12_5, rf_12_6, rf_12_7, rf_12_8, rf_12_9, rf_12_10, rf_12_11, rf_12_12, rf_12_13, rf_12_14, rf_12_15, rf_12_26, rf_12_27, rf_12_31, rf_12_32, rf_12_33, rf_12_34, rf_12_41, rf_12_44, rf_12_47, rf_12_48, rf_12_49, rf_12_51, rf_12_55, rf_12_56, rf_12_57, rf_12_58, rf_12_59, rf_12_60, Nat.reduceAdd, kc_419, kc_420, kc_421, kc_422, kc_423, kc_424, kc_425, kc_426, kc_427, kc_428, kc_429, kc_430, kc_431, kc_432, kc_433, kc_434, kc_435, kc_436, kc_437, kc_438, kc_439, kc_440, kc_441, kc_442, kc_443, kc_444, kc_445, kc_446, kc_447, kc_448, kc_449, kc_450, kc_451, kc_452, kc_453, kn_420, kn_421, kn_422, kn_423, kn_424, kn_425, kn_426, kn_427, kn_428, kn_429, kn_430, kn_431, kn_432, kn_433, kn_434, kn_435, kn_436, kn_437, kn_438, kn_439, kn_440, kn_441, kn_442, kn_443, kn_444, kn_445, kn_446, kn_447, kn_448, kn_449, kn_450, kn_451, kn_452, kn_453, r_isShot' W h.1.1 hx, r_bad1, if_false]
theorem m_isInab (v : Int32) (a c : Int64) (x y : Int32) (ha : a = x.toInt64) (hc : c = y.toInt64) : fX12_isIn N v.toInt64 a c (mk s) = some (.inl (sb (x ≤ v ∧ v ≤ y)), mk s) := by
  rw [m_isIn, ha, hc]
  simp only [i64_le]
theorem RM_0 (h : RM s P nr q b S) : RM (sI s 419 2 0) P nr q b S ∧ (sI s 419 2 0).1 419 2 = 0 ∧ Fr rM s (sI s 419 2 0) := by
  have f : Fr rQ s (sI s 419 2 0) := Fr_sI (by unfold rQ; omega)
  exact ⟨RM_q h f, sI_at _ _ _ _, Fr_m f (fun x j => rQ_rM)⟩
theorem r_await {x : Int32} (hN2 : 2000 ≤ N) (W : Wp P n D mv) (Z : WS n D S) (h : RM s P nr q b S) : ∃ s', fX12_await N 419 x (mk s) = some (.inl (pAwait D S x).1, mk s') ∧ s'.1 419 2 = 0 ∧ RM s' P nr q b (pAwait D S x).2 ∧ Fr rM s s' := by
  obtain ⟨hm1, z1, fq⟩ := RM_0 h
  generalize hs1 : sI s 419 2 0 = s1 at hm1 z1 fq
  have hr : fX12_refuse N 419 1 (mk s1) = some (.inl (-1), mk (sI s1 433 1 (s1.1 433 1 + 1))) := m_refuse (w := 1) (by omega)
  obtain ⟨r1, r2, r3⟩ := r_rfS (w := 1) (by omega) hm1
  have eD : s1.1 422 1 = nI D := (hm1.1.1.1 0 1 (by omega) (by omega)).trans W.2.2.2.2.1
  have e0 : s1.1 435 0 = S.1 0 := hm1.1.1.2.1 0 (by omega)
  have rf : ∃ s', bX12_await_34 N 419 (mk s1) = some (.inl (-1), mk s') ∧ s'.1 419 2 = 0 ∧ RM s' P nr q b (rfS S 1) ∧ Fr rM s s' := by
    refine ⟨_, ?_, r2.trans z1, r1, Fr_t fq r3⟩
    unfold bX12_await_34
    simp (decide := true) only [ob_s, cS_l, cS_r, gI_k, gR_k, pI_k, pR_k, cV_k, aI_k, tI_k, rZ_0, rZ_1, rZ_i, rf_12_0, rf_12_1, rf_12_3, rf_12_4, rf_12_5, rf_12_6, rf_12_7, rf_12_8, rf_12_9, rf_12_10, rf_12_11, rf_12_12, rf_12_13, rf_12_14, rf_12_15, rf_12_26, rf_12_27, rf_12_31, rf_12_32, rf_12_33, rf_12_34, rf_12_41, rf_12_44, rf_12_47, rf_12_48, rf_12_49, rf_12_51, rf_12_55, rf_12_56, rf_12_57, rf_12_58, rf_12_59, rf_12_60, Nat.reduceAdd, kc_419, kc_420, kc_421, kc_422, kc_423, kc_424, kc_425, kc_426, kc_427, kc_428, kc_429, kc_430, kc_431, kc_432, kc_433, kc_434, kc_435, kc_436, kc_437, kc_438, kc_439, kc_440, kc_441, kc_442, kc_443, kc_444, kc_445, kc_446, kc_447, kc_448, kc_449, kc_450, kc_451, kc_452, kc_453, kn_420, kn_421, kn_422, kn_423, kn_424, kn_425, kn_426, kn_427, kn_428, kn_429, kn_430, kn_431, kn_432, kn_433, kn_434, kn_435, kn_436, kn_437, kn_438, kn_439, kn_440, kn_441, kn_442, kn_443, kn_444, kn_445, kn_446, kn_447, kn_448, kn_449, kn_450, kn_451, kn_452, kn_453, hr]
  have hi := m_isInab (N := N) (s := s1) x 1 60 1 60 (by decide) (by decide)
  unfold fX12_await bX12_await_0
  simp (decide := true) only [ob_s, cS_l, cS_r, gI_k, gR_k, pI_k, pR_k, cV_k, aI_k, tI_k, rZ_0, rZ_1, rZ_i, rf_12_0, rf_12_1, rf_12_3, rf_12_4, rf_12_5, rf_12_6, rf_12_7, rf_12_8, rf_12_9, rf_12_10, rf_12_11, rf_12_12, rf_12_13, rf_12_14, rf_12_15, rf_12_26, rf_12_27, rf_12_31, rf_12_32, rf_12_33, rf_12_34, rf_12_41, rf_12_44, rf_12_47, rf_12_48, rf_12_49, rf_12_51, rf_12_55, rf_12_56, rf_12_57, rf_12_58, rf_12_59, rf_12_60, Nat.reduceAdd, kc_419, kc_420, kc_421, kc_422, kc_423, kc_424, kc_425, kc_426, kc_427, kc_428, kc_429, kc_430, kc_431, kc_432, kc_433, kc_434, kc_435, kc_436, kc_437, kc_438, kc_439, kc_440, kc_441, kc_442, kc_443, kc_444, kc_445, kc_446, kc_447, kc_448, kc_449, kc_450, kc_451, kc_452, kc_453, kn_420, kn_421, kn_422, kn_423, kn_424, kn_425, kn_426, kn_427, kn_428, kn_429, kn_430, kn_431, kn_432, kn_433, kn_434, kn_435, kn_436, kn_437, kn_438, kn_439, kn_440, kn_441, kn_442, kn_443, kn_444, kn_445, kn_446, kn_447, kn_448, kn_449, kn_450, kn_451, kn_452, kn_453, hs1, hi, nc_0, nc_1, e0, eD]
  unfold pAwait
  by_cases c : 1 ≤ x ∧ x ≤ 60
  · have c1 : ¬ x < 1 := Int32.not_lt.mpr c.1
    have c2 : ¬ 60 < x := Int32.not_lt.mpr c.2
    rw [sb_pos c, if_neg (by decide)]
    by_cases c3 : S.1 0 + x ≤ nI D
    · rw [if_pos c3, if_pos ⟨c1, c2, c3⟩]
      obtain ⟨s2, d1, d2, d3⟩ := r_keepS (N := N) hN2 hm1 Z.2.1
      have k0 : s2.1 435 0 = S.1 0 := d2.1.1.2.1 0 (by omega)
      have k3 : s2.1 435 3 = S.1 3 := d2.1.1.2.1 3 (by omega)
      simp (decide := true) only [ob_s, cS_l, cS_r, gI_k, gR_k, pI_k, pR_k, cV_k, aI_k, tI_k, rZ_0, rZ_1, rZ_i, rf_12_0, rf_12_1, rf_12_3, rf_12_4, rf_12_5, rf_12_6, rf_12_7, rf_12_8, rf_12_9, rf_12_10, rf_12_11, rf_12_12, rf_12_13, rf_12_14, rf_12_15, rf_12_26, rf_12_27, rf_12_31, rf_12_32, rf_12_33, rf_12_34, rf_12_41, rf_12_44, rf_12_47, rf_12_48, rf_12_49, rf_12_51, rf_12_55, rf_12_56, rf_12_57, rf_12_58, rf_12_59, rf_12_60, Nat.reduceAdd, kc_419, kc_420, kc_421, kc_422, kc_423, kc_424, kc_425, kc_426, kc_427, kc_428, kc_429, kc_430, kc_431, kc_432, kc_433, kc_434, kc_435, kc_436, kc_437, kc_438, kc_439, kc_440, kc_441, kc_442, kc_443, kc_444, kc_445, kc_446, kc_447, kc_448, kc_449, kc_450, kc_451, kc_452, kc_453, kn_420, kn_421, kn_422, kn_423, kn_424, kn_425, kn_426, kn_427, kn_428, kn_429, kn_430, kn_431, kn_432, kn_433, kn_434, kn_435, kn_436, kn_437, kn_438, kn_439, kn_440, kn_441, kn_442, kn_443, kn_444, kn_445, kn_446, kn_447, kn_448, kn_449, kn_450, kn_451, kn_452, kn_453, d1, nc_0, nc_3, k0, sI_c, Nat.reduceEqDiff, and_false, if_false, k3]
      generalize hs3 : sI (sI s2 435 0 (S.1 0 + x)) 435 3 (S.1 3 + x) = s3
      have f3 : Fr (fun y j => y = 435) s2 s3 := by
        rw [← hs3]; exact Fr_t (Fr_sI rfl) (Fr_sI rfl)
      have h5 : ∀ j, j < 15 → s3.1 435 j = sWt S.1 x j := fun j hj => by
        rw [← hs3, sI_1]
        unfold sWt
        by_cases g3 : j = 3
        · subst g3; rw [if_pos ⟨rfl, rfl⟩]; rfl
        · rw [if_neg (fun g => g3 g.2), sI_1]
          by_cases g0 : j = 0
          · subst g0; rw [if_pos ⟨rfl, rfl⟩]; rfl
          · rw [if_neg (fun g => g0 g.2), if_neg g0, if_neg g3]; exact d2.1.1.2.1 j hj
      have e00 : s3.1 435 0 = S.1 0 + x := h5 0 (by omega)
      refine ⟨s3, ?_, ?_, RM_g d2 f3 (fun y j g g2 => by unfold rP at g; omega) h5 (fun m hm => (f3.1 _ _ (by omega)).trans (d2.1.1.2.2 m hm)), Fr_t (Fr_t fq (Fr_m d3 (fun y j g => by unfold rM; omega))) (Fr_m f3 (fun y j g => by unfold rM rS; omega))⟩
      · first
          | rw [e00]
          | simp (decide := true)
      · rw [f3.1 _ _ (by omega), d3.1 _ _ (by omega)]; exact z1
    · rw [if_neg c3, if_neg (fun g => c3 g.2.2)]; exact rf
  · rw [sb_neg c, if_pos rfl, if_neg (fun g => c ⟨Int32.not_lt.mp g.1, Int32.not_lt.mp g.2.1⟩)]; exact rf
theorem r_move (hN2 : 2000 ≤ N) (W : Wp P n D mv) (Z : WS n D S) (h : RM s P nr q b S) : ∃ s', fX12_move N 419 (sk_i on) (mk s) = some (.inl (pMove D mv S on).1, mk s') ∧ s'.1 419 2 = 0 ∧ RM s' P nr q b (pMove D mv S on).2 ∧ Fr rM s s' := by
  obtain ⟨hm1, z1, fq⟩ := RM_0 h
  generalize hs1 : sI s 419 2 0 = s1 at hm1 z1 fq
  have hr : fX12_refuse N 419 1 (mk s1) = some (.inl (-1), mk (sI s1 433 1 (s1.1 433 1 + 1))) := m_refuse (w := 1) (by omega)
  obtain ⟨r1, r2, r3⟩ := r_rfS (w := 1) (by omega) hm1
  have eD : s1.1 422 1 = nI D := (hm1.1.1.1 0 1 (by omega) (by omega)).trans W.2.2.2.2.1
  have eM : s1.1 422 2 = nI mv := (hm1.1.1.1 0 2 (by omega) (by omega)).trans W.2.2.2.2.2.2.1
  have e0 : s1.1 435 0 = S.1 0 := hm1.1.1.2.1 0 (by omega)
  have e1 : s1.1 435 1 = S.1 1 := hm1.1.1.2.1 1 (by omega)
  have rf : ∃ s', bX12_move_46 N 419 (mk s1) = some (.inl (-1), mk s') ∧ s'.1 419 2 = 0 ∧ RM s' P nr q b (rfS S 1) ∧ Fr rM s s' := by
    refine ⟨_, ?_, r2.trans z1, r1, Fr_t fq r3⟩
    unfold bX12_move_46
    simp (decide := true) only [ob_s, cS_l, cS_r, gI_k, gR_k, pI_k, pR_k, cV_k, aI_k, tI_k, rZ_0, rZ_1, rZ_i, rf_12_0, rf_12_1, rf_12_3, rf_12_4, rf_12_5, rf_12_6, rf_12_7, rf_12_8, rf_12_9, rf_12_10, rf_12_11, rf_12_12, rf_12_13, rf_12_14, rf_12_15, rf_12_26, rf_12_27, rf_12_31, rf_12_32, rf_12_33, rf_12_34, rf_12_41, rf_12_44, rf_12_47, rf_12_48, rf_12_49, rf_12_51, rf_12_55, rf_12_56, rf_12_57, rf_12_58, rf_12_59, rf_12_60, Nat.reduceAdd, kc_419, kc_420, kc_421, kc_422, kc_423, kc_424, kc_425, kc_426, kc_427, kc_428, kc_429, kc_430, kc_431, kc_432, kc_433, kc_434, kc_435, kc_436, kc_437, kc_438, kc_439, kc_440, kc_441, kc_442, kc_443, kc_444, kc_445, kc_446, kc_447, kc_448, kc_449, kc_450, kc_451, kc_452, kc_453, kn_420, kn_421, kn_422, kn_423, kn_424, kn_425, kn_426, kn_427, kn_428, kn_429, kn_430, kn_431, kn_432, kn_433, kn_434, kn_435, kn_436, kn_437, kn_438, kn_439, kn_440, kn_441, kn_442, kn_443, kn_444, kn_445, kn_446, kn_447, kn_448, kn_449, kn_450, kn_451, kn_452, kn_453, hr]
  have key : ∃ s', bX12_move_20 N 419 (sk_i on) (S.1 1) (mk s1) = some (.inl (pMove D mv S on).1, mk s') ∧ s'.1 419 2 = 0 ∧ RM s' P nr q b (pMove D mv S on).2 ∧ Fr rM s s' := by
    unfold bX12_move_20 pMove
    simp (decide := true) only [ob_s, cS_l, cS_r, gI_k, gR_k, pI_k, pR_k, cV_k, aI_k, tI_k, rZ_0, rZ_1, rZ_i, rf_12_0, rf_12_1, rf_12_3, rf_12_4, rf_12_5, rf_12_6, rf_12_7, rf_12_8, rf_12_9, rf_12_10, rf_12_11, rf_12_12, rf_12_13, rf_12_14, rf_12_15, rf_12_26, rf_12_27, rf_12_31, rf_12_32, rf_12_33, rf_12_34, rf_12_41, rf_12_44, rf_12_47, rf_12_48, rf_12_49, rf_12_51, rf_12_55, rf_12_56, rf_12_57, rf_12_58, rf_12_59, rf_12_60, Nat.reduceAdd, kc_419, kc_420, kc_421, kc_422, kc_423, kc_424, kc_425, kc_426, kc_427, kc_428, kc_429, kc_430, kc_431, kc_432, kc_433, kc_434, kc_435, kc_436, kc_437, kc_438, kc_439, kc_440, kc_441, kc_442, kc_443, kc_444, kc_445, kc_446, kc_447, kc_448, kc_449, kc_450, kc_451, kc_452, kc_453, kn_420, kn_421, kn_422, kn_423, kn_424, kn_425, kn_426, kn_427, kn_428, kn_429, kn_430, kn_431, kn_432, kn_433, kn_434, kn_435, kn_436, kn_437, kn_438, kn_439, kn_440, kn_441, kn_442, kn_443, kn_444, kn_445, kn_446, kn_447, kn_448, kn_449, kn_450, kn_451, kn_452, kn_453, nc_0, nc_1, nc_2, e0, eD, eM]
    by_cases c1 : S.1 1 = sk_i on
    · rw [if_pos c1, if_neg (fun g => g.1 c1)]; exact rf
    · rw [if_neg c1]
      by_cases c3 : S.1 0 + nI mv ≤ nI D
      · rw [if_pos c3, if_pos ⟨c1, c3⟩]
        obtain ⟨s2, d1, d2, d3⟩ := r_keepS (N := N) hN2 hm1 Z.2.1
        have eM2 : s2.1 422 2 = nI mv := (d2.1.1.1 0 2 (by omega) (by omega)).trans W.2.2.2.2.2.2.1
        have hmv := m_moves (N := N) (s := s2)
        rw [eM2] at hmv
        have hm3 := RM_st (st' := sMv S.1 (nI mv)) d2 (sMv_ex (st := s2.1 435) (st' := S.1) d2.1.1.2.1 (nI mv))
        have e3 : (sA s2 435 (sMv (s2.1 435) (nI mv))).1 435 0 = S.1 0 + nI mv := hm3.1.1.2.1 0 (by omega)
        simp (decide := true) only [ob_s, cS_l, cS_r, gI_k, gR_k, pI_k, pR_k, cV_k, aI_k, tI_k, rZ_0, rZ_1, rZ_i, rf_12_0, rf_12_1, rf_12_3, rf_12_4, rf_12_5, rf_12_6, rf_12_7, rf_12_8, rf_12_9, rf_12_10, rf_12_11, rf_12_12, rf_12_13, rf_12_14, rf_12_15, rf_12_26, rf_12_27, rf_12_31, rf_12_32, rf_12_33, rf_12_34, rf_12_41, rf_12_44, rf_12_47, rf_12_48, rf_12_49, rf_12_51, rf_12_55, rf_12_56, rf_12_57, rf_12_58, rf_12_59, rf_12_60, Nat.reduceAdd, kc_419, kc_420, kc_421, kc_422, kc_423, kc_424, kc_425, kc_426, kc_427, kc_428, kc_429, kc_430, kc_431, kc_432, kc_433, kc_434, kc_435, kc_436, kc_437, kc_438, kc_439, kc_440, kc_441, kc_442, kc_443, kc_444, kc_445, kc_446, kc_447, kc_448, kc_449, kc_450, kc_451, kc_452, kc_453, kn_420, kn_421, kn_422, kn_423, kn_424, kn_425, kn_426, kn_427, kn_428, kn_429, kn_430, kn_431, kn_432, kn_433, kn_434, kn_435, kn_436, kn_437, kn_438, kn_439, kn_440, kn_441, kn_442, kn_443, kn_444, kn_445, kn_446, kn_447, kn_448, kn_449, kn_450, kn_451, kn_452, kn_453, d1, hmv, nc_0, e3]
        refine ⟨_, rfl, ?_, hm3, Fr_t (Fr_t fq (Fr_m d3 (fun x j g => by unfold rM; omega))) (Fr_sA (fun j => by unfold rM rS; omega))⟩
        rw [sA_ne _ _ _ (by omega), d3.1 _ _ (by omega)]; exact z1
      · rw [if_neg c3, if_neg (fun g => c3 g.2)]; exact rf
  unfold fX12_move bX12_move_0
  simp (decide := true) only [ob_s, cS_l, cS_r, gI_k, gR_k, pI_k, pR_k, cV_k, aI_k, tI_k, rZ_0, rZ_1, rZ_i, rf_12_0, rf_12_1, rf_12_3, rf_12_4, rf_12_5, rf_12_6, rf_12_7, rf_12_8, rf_12_9, rf_12_10, rf_12_11, rf_12_12, rf_12_13, rf_12_14, rf_12_15, rf_12_26, rf_12_27, rf_12_31, rf_12_32, rf_12_33, rf_12_34, rf_12_41, rf_12_44, rf_12_47, rf_12_48, rf_12_49, rf_12_51, rf_12_55, rf_12_56, rf_12_57, rf_12_58, rf_12_59, rf_12_60, Nat.reduceAdd, kc_419, kc_420, kc_421, kc_422, kc_423, kc_424, kc_425, kc_426, kc_427, kc_428, kc_429, kc_430, kc_431, kc_432, kc_433, kc_434, kc_435, kc_436, kc_437, kc_438, kc_439, kc_440, kc_441, kc_442, kc_443, kc_444, kc_445, kc_446, kc_447, kc_448, kc_449, kc_450, kc_451, kc_452, kc_453, kn_420, kn_421, kn_422, kn_423, kn_424, kn_425, kn_426, kn_427, kn_428, kn_429, kn_430, kn_431, kn_432, kn_433, kn_434, kn_435, kn_436, kn_437, kn_438, kn_439, kn_440, kn_441, kn_442, kn_443, kn_444, kn_445, kn_446, kn_447, kn_448, kn_449, kn_450, kn_451, kn_452, kn_453, hs1, nc_1, e1]
  rcases Z.1.2.1 with g | g
  · rw [g] at key ⊢
    rw [if_pos (by decide)]; exact key
  · rw [g] at key ⊢
    rw [if_neg (fun g => g rfl)]; exact key
theorem r_forget (h : RM s P nr q b S) : ∃ s', fX12_forget N 419 (mk s) = some (.inl (), mk s') ∧ s'.1 419 2 = 0 ∧ RM s' P nr q b (pForget S) ∧ Fr rM s s' := by
  obtain ⟨hm1, z1, fq⟩ := RM_0 h
  generalize hs1 : sI s 419 2 0 = s1 at hm1 z1 fq
  have f : Fr (fun y j => y = 419 ∧ j = 29) s1 (sI s1 419 29 0) := Fr_sI ⟨rfl, rfl⟩
  refine ⟨sI s1 419 29 0, ?_, (f.1 _ _ (by omega)).trans z1, ⟨RU2_g hm1.1 f (fun x j g => by omega) (fun j hj => (f.1 _ _ (by omega)).trans (hm1.1.1.2.1 j hj)) (fun m hm => (f.1 _ _ (by omega)).trans (hm1.1.1.2.2 m hm)), HsR_fr hm1.2.1 f (by omega) (by intros; omega), ⟨sI_at _ _ _ _, fun i hi => absurd hi (Nat.not_lt_zero i)⟩, fun j hj => (f.1 _ _ (by omega)).trans (hm1.2.2.2 j hj)⟩, Fr_t fq (Fr_sI (by unfold rM; omega))⟩
  unfold fX12_forget bX12_forget_0
  simp (decide := true) only [ob_s, cS_l, cS_r, gI_k, gR_k, pI_k, pR_k, cV_k, aI_k, tI_k, rZ_0, rZ_1, rZ_i, rf_12_0, rf_12_1, rf_12_3, rf_12_4, rf_12_5, rf_12_6, rf_12_7, rf_12_8, rf_12_9, rf_12_10, rf_12_11, rf_12_12, rf_12_13, rf_12_14, rf_12_15, rf_12_26, rf_12_27, rf_12_31, rf_12_32, rf_12_33, rf_12_34, rf_12_41, rf_12_44, rf_12_47, rf_12_48, rf_12_49, rf_12_51, rf_12_55, rf_12_56, rf_12_57, rf_12_58, rf_12_59, rf_12_60, Nat.reduceAdd, kc_419, kc_420, kc_421, kc_422, kc_423, kc_424, kc_425, kc_426, kc_427, kc_428, kc_429, kc_430, kc_431, kc_432, kc_433, kc_434, kc_435, kc_436, kc_437, kc_438, kc_439, kc_440, kc_441, kc_442, kc_443, kc_444, kc_445, kc_446, kc_447, kc_448, kc_449, kc_450, kc_451, kc_452, kc_453, kn_420, kn_421, kn_422, kn_423, kn_424, kn_425, kn_426, kn_427, kn_428, kn_429, kn_430, kn_431, kn_432, kn_433, kn_434, kn_435, kn_436, kn_437, kn_438, kn_439, kn_440, kn_441, kn_442, kn_443, kn_444, kn_445, kn_446, kn_447, kn_448, kn_449, kn_450, kn_451, kn_452, kn_453, hs1]
end RA
