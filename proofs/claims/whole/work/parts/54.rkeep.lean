/- needs: 53.scopy -/
/-! the reference: the states that are kept -/
/-- a state and a sky, packed at t of row a -/
def Rw (s : sg) (a t : Nat) (st : Nat → Int32) (K : Nat → Bool) : Prop := (∀ j, j < 15 → s.1 a (t + j) = st j) ∧ ∀ m, m < 480 → bt (s.1 a (t + 15 + m / 30)) (m % 30) = K m
def HsR (s : sg) (na : Nat) (hs : Nat → Nat → Int32) (hk : Nat → Nat → Bool) : Prop := s.1 419 28 = nI na ∧ ∀ i, i < na → Rw s 436 (31 * i) (hs i) (hk i)
theorem Rw_fr {Q : Nat → Nat → Prop} {s s' : sg} {a t : Nat} {st : Nat → Int32} {K : Nat → Bool} (h : Rw s a t st K) (f : Fr Q s s') (hq : ∀ j, ¬ Q a j) : Rw s' a t st K :=
  ⟨fun j hj => (f.1 _ _ (hq _)).trans (h.1 j hj), fun m hm => by rw [f.1 _ _ (hq _)]; exact h.2 m hm⟩
theorem HsR_fr {Q : Nat → Nat → Prop} {s s' : sg} {na : Nat} {hs : Nat → Nat → Int32} {hk : Nat → Nat → Bool} (h : HsR s na hs hk) (f : Fr Q s s') (h1 : ¬ Q 419 28) (hq : ∀ j, ¬ Q 436 j) : HsR s' na hs hk :=
  ⟨(f.1 _ _ h1).trans h.1, fun i hi => Rw_fr (h.2 i hi) f hq⟩
section RK
variable {N : Nat} {s : sg} {P : pln} {K : Nat → Bool} {st : Nat → Int32} {a t na : Nat} {hs : Nat → Nat → Int32} {hk : Nat → Nat → Bool}
theorem Rw_pk (h5 : ∀ j, j < 15 → s.1 435 j = st j) (f : Nat → Int32) : Rw (sA s a (pkd f t (s.1 435) K)) a t st K := by
  refine ⟨fun j hj => ?_, fun m hm => ?_⟩
  · rw [sA_at]
    unfold pkd
    rw [if_neg (by omega), if_pos (by omega), show t + j - t = j by omega]
    exact h5 j hj
  · rw [sA_at]
    unfold pkd
    rw [if_pos (by omega), show t + 15 + m / 30 - (t + 15) = m / 30 by omega, bt_pw K (m / 30) 30 (by omega) (m % 30) (by omega)]
    have e : 30 * (m / 30) + m % 30 = m := Nat.div_add_mod m 30
    rw [e]
    simp [show m % 30 < 30 by omega]
/-- unpacked: the state and the sky -/
theorem Rw_un (h : Rw s a t st K) : (∀ j, j < 15 → (sA (sA s 435 (fun j => if j < 15 then s.1 a (t + j) else s.1 435 j)) 429 (fun j => if j < 480 then sk_i (bt (s.1 a (t + 15 + j / 30)) (j % 30)) else s.1 429 j)).1 435 j = st j) ∧ mSky (sA (sA s 435 (fun j => if j < 15 then s.1 a (t + j) else s.1 435 j)) 429 (fun j => if j < 480 then sk_i (bt (s.1 a (t + 15 + j / 30)) (j % 30)) else s.1 429 j)) K := by
  refine ⟨fun j hj => ?_, fun m hm => ?_⟩
  · rw [sA_ne _ _ _ (by omega), sA_at, if_pos hj]; exact h.1 j hj
  · rw [sA_at, if_pos hm, h.2 m hm]
theorem r_keep52 (hN1 : 1000 ≤ N) (hna : na < 40) (h5 : ∀ j, j < 15 → s.1 435 j = st j) (hK : mSky s K) (hh : HsR s na hs hk) : ∃ s', bX12_keep_52 N 419 (mk s) = some (.inl (), mk s') ∧ HsR s' (na + 1) (fun i => if i = na then st else hs i) (fun i => if i = na then K else hk i) ∧ Fr (fun x j => x = 436 ∨ (x = 419 ∧ j = 28)) s s' := by
  have hpk := m_pack (N := N) (s := s) (a := 436) (t := 31 * na) rfl (by rw [kn_436]; omega) (by omega) (by omega) (by omega) hN1 hK
  have e28 : (sA s 436 (pkd (s.1 436) (31 * na) (s.1 435) K)).1 419 28 = nI na := by rw [sA_ne _ _ _ (by omega)]; exact hh.1
  have f2 : Fr (fun x j => x = 419 ∧ j = 28) (sA s 436 (pkd (s.1 436) (31 * na) (s.1 435) K)) (sI (sA s 436 (pkd (s.1 436) (31 * na) (s.1 435) K)) 419 28 (nI (na + 1))) := Fr_sI ⟨rfl, rfl⟩
  refine ⟨sI (sA s 436 (pkd (s.1 436) (31 * na) (s.1 435) K)) 419 28 (nI (na + 1)), ?_, ⟨sI_at _ _ _ _, fun i hi => ?_⟩, Fr_t (Fr_sA (fun j => Or.inl rfl)) (Fr_sI (Or.inr ⟨rfl, rfl⟩))⟩
  · unfold bX12_keep_52
    have e31 : (31 : Int32) * nI na = nI (31 * na) := nI_mul 31 na
    simp (decide := true) only [ob_s, cS_l, cS_r, gI_k, gR_k, pI_k, pR_k, cV_k, aI_k, tI_k, rZ_0, rZ_1, rZ_i, rf_12_0, rf_12_1, rf_12_3, rf_12_4, rf_12_5, rf_12_6, rf_12_7, rf_12_8, rf_12_9, rf_12_10, rf_12_11, rf_12_12, rf_12_13, rf_12_14, rf_12_15, rf_12_26, rf_12_27, rf_12_31, rf_12_32, rf_12_33, rf_12_34, rf_12_41, rf_12_44, rf_12_47, rf_12_48, rf_12_49, rf_12_51, rf_12_55, rf_12_56, rf_12_57, rf_12_58, rf_12_59, rf_12_60, Nat.reduceAdd, kc_419, kc_420, kc_421, kc_422, kc_423, kc_424, kc_425, kc_426, kc_427, kc_428, kc_429, kc_430, kc_431, kc_432, kc_433, kc_434, kc_435, kc_436, kc_437, kc_438, kc_439, kc_440, kc_441, kc_442, kc_443, kc_444, kc_445, kc_446, kc_447, kc_448, kc_449, kc_450, kc_451, kc_452, kc_453, kn_420, kn_421, kn_422, kn_423, kn_424, kn_425, kn_426, kn_427, kn_428, kn_429, kn_430, kn_431, kn_432, kn_433, kn_434, kn_435, kn_436, kn_437, kn_438, kn_439, kn_440, kn_441, kn_442, kn_443, kn_444, kn_445, kn_446, kn_447, kn_448, kn_449, kn_450, kn_451, kn_452, kn_453, hh.1, e31, hpk, e28, nI_1]
  · show Rw (sI (sA s 436 (pkd (s.1 436) (31 * na) (s.1 435) K)) 419 28 (nI (na + 1))) 436 (31 * i) (if i = na then st else hs i) (if i = na then K else hk i)
    by_cases e : i = na
    · rw [if_pos e, if_pos e, e]
      exact Rw_fr (Rw_pk h5 _) f2 (by intros; omega)
    · rw [if_neg e, if_neg e]
      have hr := hh.2 i (by omega)
      refine Rw_fr ⟨fun j hj => ?_, fun m hm => ?_⟩ f2 (by intros; omega)
      · rw [sA_at]
        unfold pkd
        rw [if_neg (by omega), if_neg (by omega)]; exact hr.1 j hj
      · rw [sA_at]
        unfold pkd
        have hm2 : m / 30 < 16 := by omega
        rw [if_neg (by omega), if_neg (by omega)]; exact hr.2 m hm
def shf (s : sg) (i j : Nat) : Int32 := if j + 31 < i then s.1 436 (j + 31) else s.1 436 j
theorem r_keep12 : ∀ (f i : Nat), 1240 - i < f → 31 ≤ i → i ≤ 1240 → lX12_keep_12 N f 419 (nI i) (mk (sA s 436 (shf s i))) = bX12_keep_42 N 419 (mk (sA s 436 (shf s 1240))) := by
  intro f
  induction f with
  | zero => intro i hf; omega
  | succ f ih =>
    intro i hf hi1 hi
    show bX12_keep_12 N (lX12_keep_12 N f) 419 (nI i) (mk (sA s 436 (shf s i))) = _
    unfold bX12_keep_12
    have hn : aN (mk (sA s 436 (shf s i))) 436 = some (nI 1240) := aN_k (Or.inl rfl)
    simp (decide := true) only [ob_s, cS_l, cS_r, gI_k, gR_k, pI_k, pR_k, cV_k, aI_k, tI_k, rZ_0, rZ_1, rZ_i, rf_12_0, rf_12_1, rf_12_3, rf_12_4, rf_12_5, rf_12_6, rf_12_7, rf_12_8, rf_12_9, rf_12_10, rf_12_11, rf_12_12, rf_12_13, rf_12_14, rf_12_15, rf_12_26, rf_12_27, rf_12_31, rf_12_32, rf_12_33, rf_12_34, rf_12_41, rf_12_44, rf_12_47, rf_12_48, rf_12_49, rf_12_51, rf_12_55, rf_12_56, rf_12_57, rf_12_58, rf_12_59, rf_12_60, Nat.reduceAdd, kc_419, kc_420, kc_421, kc_422, kc_423, kc_424, kc_425, kc_426, kc_427, kc_428, kc_429, kc_430, kc_431, kc_432, kc_433, kc_434, kc_435, kc_436, kc_437, kc_438, kc_439, kc_440, kc_441, kc_442, kc_443, kc_444, kc_445, kc_446, kc_447, kc_448, kc_449, kc_450, kc_451, kc_452, kc_453, kn_420, kn_421, kn_422, kn_423, kn_424, kn_425, kn_426, kn_427, kn_428, kn_429, kn_430, kn_431, kn_432, kn_433, kn_434, kn_435, kn_436, kn_437, kn_438, kn_439, kn_440, kn_441, kn_442, kn_443, kn_444, kn_445, kn_446, kn_447, kn_448, kn_449, kn_450, kn_451, kn_452, kn_453, hn]
    by_cases c : 1240 ≤ i
    · rw [if_pos (nI_le c (by omega)), show i = 1240 by omega]
    · rw [if_neg (nI_ge (by omega) (by omega))]
      have ii : inB (nI i) 1240 = true := inA_nI (by omega) (by omega)
      have i2 : inB (nI (i - 31)) 1240 = true := inA_nI (by omega) (by omega)
      have e31 : nI i - (31 : Int32) = nI (i - 31) := nI_sub (b := 31) hi1
      have ev : shf s i i = s.1 436 i := by unfold shf; rw [if_neg (by omega)]
      have eu : (fun j' => if j' = i - 31 then s.1 436 i else shf s i j') = shf s (i + 1) := by
        funext j
        unfold shf
        by_cases e : j = i - 31
        · rw [if_pos e, if_pos (by omega), show j + 31 = i by omega]
        · rw [if_neg e]
          by_cases e2 : j + 31 < i
          · rw [if_pos e2, if_pos (by omega)]
          · rw [if_neg e2, if_neg (by omega)]
      simp (decide := true) only [ob_s, cS_l, cS_r, gI_k, gR_k, pI_k, pR_k, cV_k, aI_k, tI_k, rZ_0, rZ_1, rZ_i, rf_12_0, rf_12_1, rf_12_3, rf_12_4, rf_12_5, rf_12_6, rf_12_7, rf_12_8, rf_12_9, rf_12_10, rf_12_11, rf_12_12, rf_12_13, rf_12_14, rf_12_15, rf_12_26, rf_12_27, rf_12_31, rf_12_32, rf_12_33, rf_12_34, rf_12_41, rf_12_44, rf_12_47, rf_12_48, rf_12_49, rf_12_51, rf_12_55, rf_12_56, rf_12_57, rf_12_58, rf_12_59, rf_12_60, Nat.reduceAdd, kc_419, kc_420, kc_421, kc_422, kc_423, kc_424, kc_425, kc_426, kc_427, kc_428, kc_429, kc_430, kc_431, kc_432, kc_433, kc_434, kc_435, kc_436, kc_437, kc_438, kc_439, kc_440, kc_441, kc_442, kc_443, kc_444, kc_445, kc_446, kc_447, kc_448, kc_449, kc_450, kc_451, kc_452, kc_453, kn_420, kn_421, kn_422, kn_423, kn_424, kn_425, kn_426, kn_427, kn_428, kn_429, kn_430, kn_431, kn_432, kn_433, kn_434, kn_435, kn_436, kn_437, kn_438, kn_439, kn_440, kn_441, kn_442, kn_443, kn_444, kn_445, kn_446, kn_447, kn_448, kn_449, kn_450, kn_451, kn_452, kn_453, e31, ii, i2, nI_clamp (show i < 2 ^ 31 by omega), nI_clamp (show i - 31 < 2 ^ 31 by omega), sA_at, ev, sA_up, eu, nI_1]
      exact ih (i + 1) (by omega) (by omega) (by omega)
theorem r_keep (hN2 : 2000 ≤ N) (hna : na ≤ 40) (h5 : ∀ j, j < 15 → s.1 435 j = st j) (hK : mSky s K) (hh : HsR s na hs hk) : ∃ s', fX12_keep N 419 (mk s) = some (.inl (), mk s') ∧ HsR s' (naK na) (hsK na hs st) (hsK na hk K) ∧ Fr (fun x j => x = 436 ∨ (x = 419 ∧ j = 28)) s s' := by
  unfold fX12_keep bX12_keep_0
  by_cases e : na = 40
  · subst e
    have e2 : s.1 419 28 = 40 := hh.1
    have hl := r_keep12 (N := N) (s := s) N 31 (by omega) (by omega) (by omega)
    have e0 : sA s 436 (shf s 31) = s := by
      have : shf s 31 = s.1 436 := by
        funext j
        unfold shf
        rw [if_neg (by omega)]
      rw [this, sA_id]
    rw [e0] at hl
    have f1 : Fr (fun x j => x = 436 ∨ (x = 419 ∧ j = 28)) s (sI (sA s 436 (shf s 1240)) 419 28 (nI 39)) := Fr_t (Fr_sA (fun j => Or.inl rfl)) (Fr_sI (Or.inr ⟨rfl, rfl⟩))
    have e28 : (sA s 436 (shf s 1240)).1 419 28 = 40 := by rw [sA_ne _ _ _ (by omega)]; exact e2
    have hh1 : HsR (sI (sA s 436 (shf s 1240)) 419 28 (nI 39)) 39 (fun i => hs (i + 1)) (fun i => hk (i + 1)) := by
      refine ⟨sI_at _ _ _ _, fun i hi => ?_⟩
      have hr := hh.2 (i + 1) (by omega)
      refine ⟨fun j hj => ?_, fun m hm => ?_⟩
      · rw [sI_1, if_neg (by omega), sA_at]
        unfold shf
        rw [if_pos (by omega), show 31 * i + j + 31 = 31 * (i + 1) + j by omega]
        exact hr.1 j hj
      · have hm2 : m / 30 < 16 := by omega
        rw [sI_1, if_neg (by omega), sA_at]
        unfold shf
        rw [if_pos (by omega), show 31 * i + 15 + m / 30 + 31 = 31 * (i + 1) + 15 + m / 30 by omega]
        exact hr.2 m hm
    obtain ⟨s2, b1, b2, b3⟩ := r_keep52 (N := N) (st := st) (K := K) (by omega) (show 39 < 40 by omega) (fun j hj => (f1.1 _ _ (by omega)).trans (h5 j hj)) (fun m hm => (f1.1 _ _ (by omega)).trans (hK m hm)) hh1
    refine ⟨s2, ?_, ?_, Fr_t f1 b3⟩
    · simp (decide := true) only [ob_s, cS_l, cS_r, gI_k, gR_k, pI_k, pR_k, cV_k, aI_k, tI_k, rZ_0, rZ_1, rZ_i, rf_12_0, rf_12_1, rf_12_3, rf_12_4, rf_12_5, rf_12_6, rf_12_7, rf_12_8, rf_12_9, rf_12_10, rf_12_11, rf_12_12, rf_12_13, rf_12_14, rf_12_15, rf_12_26, rf_12_27, rf_12_31, rf_12_32, rf_12_33, rf_12_34, rf_12_41, rf_12_44, rf_12_47, rf_12_48, rf_12_49, rf_12_51, rf_12_55, rf_12_56, rf_12_57, rf_12_58, rf_12_59, rf_12_60, Nat.reduceAdd, kc_419, kc_420, kc_421, kc_422, kc_423, kc_424, kc_425, kc_426, kc_427, kc_428, kc_429, kc_430, kc_431, kc_432, kc_433, kc_434, kc_435, kc_436, kc_437, kc_438, kc_439, kc_440, kc_441, kc_442, kc_443, kc_444, kc_445, kc_446, kc_447, kc_448, kc_449, kc_450, kc_451, kc_452, kc_453, kn_420, kn_421, kn_422, kn_423, kn_424, kn_425, kn_426, kn_427, kn_428, kn_429, kn_430, kn_431, kn_432, kn_433, kn_434, kn_435, kn_436, kn_437, kn_438, kn_439, kn_440, kn_441, kn_442, kn_443, kn_444, kn_445, kn_446, kn_447, kn_448, kn_449, kn_450, kn_451, kn_452, kn_453, e2, if_false]
      have hl' : lX12_keep_12 N N 419 31 (mk s) = bX12_keep_42 N 419 (mk (sA s 436 (shf s 1240))) := hl
      rw [hl']
      unfold bX12_keep_42
      have e39 : (40 : Int32) - 1 = nI 39 := by decide
      simp (decide := true) only [ob_s, cS_l, cS_r, gI_k, gR_k, pI_k, pR_k, cV_k, aI_k, tI_k, rZ_0, rZ_1, rZ_i, rf_12_0, rf_12_1, rf_12_3, rf_12_4, rf_12_5, rf_12_6, rf_12_7, rf_12_8, rf_12_9, rf_12_10, rf_12_11, rf_12_12, rf_12_13, rf_12_14, rf_12_15, rf_12_26, rf_12_27, rf_12_31, rf_12_32, rf_12_33, rf_12_34, rf_12_41, rf_12_44, rf_12_47, rf_12_48, rf_12_49, rf_12_51, rf_12_55, rf_12_56, rf_12_57, rf_12_58, rf_12_59, rf_12_60, Nat.reduceAdd, kc_419, kc_420, kc_421, kc_422, kc_423, kc_424, kc_425, kc_426, kc_427, kc_428, kc_429, kc_430, kc_431, kc_432, kc_433, kc_434, kc_435, kc_436, kc_437, kc_438, kc_439, kc_440, kc_441, kc_442, kc_443, kc_444, kc_445, kc_446, kc_447, kc_448, kc_449, kc_450, kc_451, kc_452, kc_453, kn_420, kn_421, kn_422, kn_423, kn_424, kn_425, kn_426, kn_427, kn_428, kn_429, kn_430, kn_431, kn_432, kn_433, kn_434, kn_435, kn_436, kn_437, kn_438, kn_439, kn_440, kn_441, kn_442, kn_443, kn_444, kn_445, kn_446, kn_447, kn_448, kn_449, kn_450, kn_451, kn_452, kn_453, e28, e39]
      exact b1
    · have e1 : (hsK 40 hs st) = fun i => if i = 39 then st else hs (i + 1) := by
        funext i
        unfold hsK
        rw [if_pos rfl]
      have e3 : (hsK 40 hk K) = fun i => if i = 39 then K else hk (i + 1) := by
        funext i
        unfold hsK
        rw [if_pos rfl]
      rw [e1, e3]
      exact b2
  · obtain ⟨s2, b1, b2, b3⟩ := r_keep52 (N := N) (by omega) (show na < 40 by omega) h5 hK hh
    refine ⟨s2, ?_, ?_, b3⟩
    · have e2 : ¬ s.1 419 28 = 40 := by
        rw [hh.1]
        exact fun g => e ((nI_inj (a := na) (b := 40) (by omega) (by omega)).mp g)
      simp (decide := true) only [ob_s, cS_l, cS_r, gI_k, gR_k, pI_k, pR_k, cV_k, aI_k, tI_k, rZ_0, rZ_1, rZ_i, rf_12_0, rf_12_1, rf_12_3, rf_12_4, rf_12_5, rf_12_6, rf_12_7, rf_12_8, rf_12_9, rf_12_10, rf_12_11, rf_12_12, rf_12_13, rf_12_14, rf_12_15, rf_12_26, rf_12_27, rf_12_31, rf_12_32, rf_12_33, rf_12_34, rf_12_41, rf_12_44, rf_12_47, rf_12_48, rf_12_49, rf_12_51, rf_12_55, rf_12_56, rf_12_57, rf_12_58, rf_12_59, rf_12_60, Nat.reduceAdd, kc_419, kc_420, kc_421, kc_422, kc_423, kc_424, kc_425, kc_426, kc_427, kc_428, kc_429, kc_430, kc_431, kc_432, kc_433, kc_434, kc_435, kc_436, kc_437, kc_438, kc_439, kc_440, kc_441, kc_442, kc_443, kc_444, kc_445, kc_446, kc_447, kc_448, kc_449, kc_450, kc_451, kc_452, kc_453, kn_420, kn_421, kn_422, kn_423, kn_424, kn_425, kn_426, kn_427, kn_428, kn_429, kn_430, kn_431, kn_432, kn_433, kn_434, kn_435, kn_436, kn_437, kn_438, kn_439, kn_440, kn_441, kn_442, kn_443, kn_444, kn_445, kn_446, kn_447, kn_448, kn_449, kn_450, kn_451, kn_452, kn_453, e2, if_true]
      exact b1
    · have e0 : naK na = na + 1 := by unfold naK; rw [if_neg e]
      have e1 : (hsK na hs st) = fun i => if i = na then st else hs i := by
        funext i
        unfold hsK
        rw [if_neg e]
      have e2 : (hsK na hk K) = fun i => if i = na then K else hk i := by
        funext i
        unfold hsK
        rw [if_neg e]
      rw [e0, e1, e2]
      exact b2
end RK
