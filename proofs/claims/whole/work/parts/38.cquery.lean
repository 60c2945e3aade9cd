/- needs: 37.rorder -/
/-! the class's questions -/
theorem ob_s {α β : Type} (a : α) (f : α → Option β) : Option.bind (some a) f = f a := by rw [Option.bind]
theorem cS_l {α β : Type} {v : α} {c : mm_C} {f : α → mm_C → mR β} : cS (some (.inl v, c)) f = f v c := by rw [cS]
theorem cS_r {α β : Type} {e : Nat} {c : mm_C} {f : α → mm_C → mR β} : cS (α := α) (some (.inr e, c)) f = some (.inr e, c) := by rw [cS]
theorem rf_11_3 (s : sg) (a : Nat) : rf s 11 a 3 = s.2.1 a 3 := rfl
theorem rf_11_4 (s : sg) (a : Nat) : rf s 11 a 4 = s.2.1 a 4 := rfl
theorem rng (x : Int32) (n : Nat) (hn : n < 2 ^ 30) : (∃ k, k < n ∧ x = nI k ∧ ¬ x < 0 ∧ ¬ nI n ≤ x ∧ (0 ≤ x ∧ x ≤ nI n - 1)) ∨ ((x < 0 ∨ (¬ x < 0 ∧ nI n ≤ x)) ∧ ¬ (0 ≤ x ∧ x ≤ nI n - 1) ∧ ¬ ∃ k, k < n ∧ x = nI k) := by
  have e0 : (0 : Int32).toInt = 0 := by decide
  have en : (nI n).toInt = n := nI_toInt (by omega)
  have e1 : (nI n - 1).toInt = (n : Int) - 1 := by
    cases n with
    | zero => decide
    | succ m => rw [nI_pred, nI_toInt (by omega)]; omega
  simp only [i32_lt, i32_le, e0, en, e1]
  by_cases h : 0 ≤ x.toInt ∧ x.toInt < n
  · left
    obtain ⟨k, hk, rfl⟩ := nI_of (x := x) (by rw [i32_lt, e0]; omega)
    rw [nI_toInt hk] at h ⊢
    exact ⟨k, by omega, rfl, by omega, by omega, by omega, by omega⟩
  · right
    refine ⟨by omega, by omega, ?_⟩
    rintro ⟨k, hk, rfl⟩
    rw [nI_toInt (by omega)] at h
    omega
/-- cells that the class's questions use -/
def cQ (x j : Nat) : Prop := (377 ≤ x ∧ x ≤ 418) ∨ x = 9 ∨ x = 25 ∨ ((x = 6 ∨ x = 22) ∧ j = 5)
/-- the class: its plan P at p, its state st, its sky K -/
def CQ (s : sg) (p : Nat) (P : pln) (n D mv : Nat) (st : Nat → Int32) (K : Nat → Bool) : Prop := plA p ∧ s.2.1 0 3 = p ∧ CPl s p P n D mv ∧ SAt s 38 st K
section CQS
variable {N : Nat} {s : sg} {K : Nat → Bool} {st : Nat → Int32} {P : pln} {p a n D mv E H k m w : Nat}
theorem CQ_fr {s' : sg} (h : CQ s p P n D mv st K) (hn : n ≤ 8) (f : Fr cQ s s') : CQ s' p P n D mv st K := by
  obtain ⟨h1, h2, h3, h4⟩ := h
  have hp := h1
  refine ⟨h1, (f.2.1 _ _ (by unfold cQ; omega)).trans h2, ?_, SAt_fr h4 f (fun x j q1 q2 => by unfold cQ; omega)⟩
  rcases hp with rfl | rfl
  · refine ⟨(f.1 _ _ (by unfold cQ; omega)).trans h3.1, (f.1 _ _ (by unfold cQ; omega)).trans h3.2.1, (f.1 _ _ (by unfold cQ; omega)).trans h3.2.2.1, fun k hk => ?_⟩
    have e : ∀ j, s'.1 (2 + 1 + 7 + k) j = s.1 (2 + 1 + 7 + k) j := fun j => f.1 _ _ (by unfold cQ; omega)
    obtain ⟨g1, g2, g3, g4, g5, g6⟩ := h3.2.2.2 k hk
    exact ⟨(e _).trans g1, (e _).trans g2, (e _).trans g3, (e _).trans g4, (e _).trans g5, (e _).trans g6⟩
  · refine ⟨(f.1 _ _ (by unfold cQ; omega)).trans h3.1, (f.1 _ _ (by unfold cQ; omega)).trans h3.2.1, (f.1 _ _ (by unfold cQ; omega)).trans h3.2.2.1, fun k hk => ?_⟩
    have e : ∀ j, s'.1 (18 + 1 + 7 + k) j = s.1 (18 + 1 + 7 + k) j := fun j => f.1 _ _ (by unfold cQ; omega)
    obtain ⟨g1, g2, g3, g4, g5, g6⟩ := h3.2.2.2 k hk
    exact ⟨(e _).trans g1, (e _).trans g2, (e _).trans g3, (e _).trans g4, (e _).trans g5, (e _).trans g6⟩
theorem seD_cQ {x j : Nat} (h : seD x j) : cQ x j := by unfold seD at h; unfold cQ; omega
theorem c_reqShot (h : CQ s p P n D mv st K) (hk : k < n) (hn : n ≤ 8) : fX11_requireShot N 0 (nI k) (mk s) = some (.inl (), mk s) := by
  obtain ⟨h1, h2, h3, h4⟩ := h
  have hpO := plA_O h1
  have e : fX3_isShot N p (nI k) (mk s) = some (.inl 1, mk s) := by
    unfold fX3_isShot bX3_isShot_0
    rw [if_neg (nI_pos (by omega))]
    simp (decide := true) only [ob_s, cS_l, cS_r, gI_k, gR_k, pI_k, pR_k, cV_k, aI_k, tI_k, rZ_0, rZ_1, rZ_i, aR_24, aR_25, aZ_k, tZ_k, rf_3_6, rf_3_7, rf_3_8, rf_5_0, rf_5_1, rf_5_3, rf_5_4, rf_5_5, rf_5_7, rf_6_4, rf_6_11, rf_1_0, rf_1_1, rf_0_6, rf_9_7, rf_9_8, rf_8_0, rf_11_0, rf_11_5, rf_11_6, rf_11_7, rf_11_9, rf_11_10, rf_11_11, rf_11_12, rf_11_3, rf_11_4, Nat.reduceAdd, Nat.zero_add, kc_0, kc_1, kc_34, kc_35, kc_36, kc_37, kc_38, kc_39, kc_40, kc_41, kc_42, kc_43, kc_44, kc_45, kc_46, kc_207, kc_208, kc_209, kc_210, kc_211, kc_212, kc_213, kc_214, kc_215, kc_216, kc_377, kc_378, kc_379, kc_380, kc_381, kc_382, kc_383, kc_384, kc_385, kc_386, kc_387, kc_388, kc_389, kc_390, kc_391, kc_392, kc_393, kc_394, kc_395, kc_414, kc_415, kc_416, kc_417, kc_418, kn_1, kn_36, kn_39, kn_41, kn_42, kn_43, kn_44, kn_45, kn_46, kn_209, kn_211, kn_212, kn_213, kn_214, kn_215, kn_216, kn_378, kn_380, kn_382, kn_383, kn_385, kn_386, kn_388, kn_390, kn_392, kn_393, kn_395, kn_414, kn_415, kn_417, kn_418, hpO.1, h3.2.2.1]
    rw [if_neg (nI_ge hk (by omega))]
  unfold fX11_requireShot bX11_requireShot_0
  simp (decide := true) only [ob_s, cS_l, cS_r, gI_k, gR_k, pI_k, pR_k, cV_k, aI_k, tI_k, rZ_0, rZ_1, rZ_i, aR_24, aR_25, aZ_k, tZ_k, rf_3_6, rf_3_7, rf_3_8, rf_5_0, rf_5_1, rf_5_3, rf_5_4, rf_5_5, rf_5_7, rf_6_4, rf_6_11, rf_1_0, rf_1_1, rf_0_6, rf_9_7, rf_9_8, rf_8_0, rf_11_0, rf_11_5, rf_11_6, rf_11_7, rf_11_9, rf_11_10, rf_11_11, rf_11_12, rf_11_3, rf_11_4, Nat.reduceAdd, Nat.zero_add, kc_0, kc_1, kc_34, kc_35, kc_36, kc_37, kc_38, kc_39, kc_40, kc_41, kc_42, kc_43, kc_44, kc_45, kc_46, kc_207, kc_208, kc_209, kc_210, kc_211, kc_212, kc_213, kc_214, kc_215, kc_216, kc_377, kc_378, kc_379, kc_380, kc_381, kc_382, kc_383, kc_384, kc_385, kc_386, kc_387, kc_388, kc_389, kc_390, kc_391, kc_392, kc_393, kc_394, kc_395, kc_414, kc_415, kc_416, kc_417, kc_418, kn_1, kn_36, kn_39, kn_41, kn_42, kn_43, kn_44, kn_45, kn_46, kn_209, kn_211, kn_212, kn_213, kn_214, kn_215, kn_216, kn_378, kn_380, kn_382, kn_383, kn_385, kn_386, kn_388, kn_390, kn_392, kn_393, kn_395, kn_414, kn_415, kn_417, kn_418, h2, hpO.1, e, if_true, if_false]
theorem c_reqShot' {x : Int32} (h : CQ s p P n D mv st K) (hx : x < 0 ∨ (¬ x < 0 ∧ nI n ≤ x)) : fX11_requireShot N 0 x (mk s) = some (.inr 1, mk s) := by
  obtain ⟨h1, h2, h3, h4⟩ := h
  have hpO := plA_O h1
  have e : fX3_isShot N p x (mk s) = some (.inl 0, mk s) := by
    unfold fX3_isShot bX3_isShot_0
    rcases hx with hx | hx
    · rw [if_pos hx]; rfl
    · rw [if_neg hx.1]
      simp (decide := true) only [ob_s, cS_l, cS_r, gI_k, gR_k, pI_k, pR_k, cV_k, aI_k, tI_k, rZ_0, rZ_1, rZ_i, aR_24, aR_25, aZ_k, tZ_k, rf_3_6, rf_3_7, rf_3_8, rf_5_0, rf_5_1, rf_5_3, rf_5_4, rf_5_5, rf_5_7, rf_6_4, rf_6_11, rf_1_0, rf_1_1, rf_0_6, rf_9_7, rf_9_8, rf_8_0, rf_11_0, rf_11_5, rf_11_6, rf_11_7, rf_11_9, rf_11_10, rf_11_11, rf_11_12, rf_11_3, rf_11_4, Nat.reduceAdd, Nat.zero_add, kc_0, kc_1, kc_34, kc_35, kc_36, kc_37, kc_38, kc_39, kc_40, kc_41, kc_42, kc_43, kc_44, kc_45, kc_46, kc_207, kc_208, kc_209, kc_210, kc_211, kc_212, kc_213, kc_214, kc_215, kc_216, kc_377, kc_378, kc_379, kc_380, kc_381, kc_382, kc_383, kc_384, kc_385, kc_386, kc_387, kc_388, kc_389, kc_390, kc_391, kc_392, kc_393, kc_394, kc_395, kc_414, kc_415, kc_416, kc_417, kc_418, kn_1, kn_36, kn_39, kn_41, kn_42, kn_43, kn_44, kn_45, kn_46, kn_209, kn_211, kn_212, kn_213, kn_214, kn_215, kn_216, kn_378, kn_380, kn_382, kn_383, kn_385, kn_386, kn_388, kn_390, kn_392, kn_393, kn_395, kn_414, kn_415, kn_417, kn_418, hpO.1, h3.2.2.1]
      rw [if_pos hx.2]
  unfold fX11_requireShot bX11_requireShot_0
  simp (decide := true) only [ob_s, cS_l, cS_r, gI_k, gR_k, pI_k, pR_k, cV_k, aI_k, tI_k, rZ_0, rZ_1, rZ_i, aR_24, aR_25, aZ_k, tZ_k, rf_3_6, rf_3_7, rf_3_8, rf_5_0, rf_5_1, rf_5_3, rf_5_4, rf_5_5, rf_5_7, rf_6_4, rf_6_11, rf_1_0, rf_1_1, rf_0_6, rf_9_7, rf_9_8, rf_8_0, rf_11_0, rf_11_5, rf_11_6, rf_11_7, rf_11_9, rf_11_10, rf_11_11, rf_11_12, rf_11_3, rf_11_4, Nat.reduceAdd, Nat.zero_add, kc_0, kc_1, kc_34, kc_35, kc_36, kc_37, kc_38, kc_39, kc_40, kc_41, kc_42, kc_43, kc_44, kc_45, kc_46, kc_207, kc_208, kc_209, kc_210, kc_211, kc_212, kc_213, kc_214, kc_215, kc_216, kc_377, kc_378, kc_379, kc_380, kc_381, kc_382, kc_383, kc_384, kc_385, kc_386, kc_387, kc_388, kc_389, kc_390, kc_391, kc_392, kc_393, kc_394, kc_395, kc_414, kc_415, kc_416, kc_417, kc_418, kn_1, kn_36, kn_39, kn_41, kn_42, kn_43, kn_44, kn_45, kn_46, kn_209, kn_211, kn_212, kn_213, kn_214, kn_215, kn_216, kn_378, kn_380, kn_382, kn_383, kn_385, kn_386, kn_388, kn_390, kn_392, kn_393, kn_395, kn_414, kn_415, kn_417, kn_418, h2, hpO.1, e, if_true, if_false]
theorem c_isMin (h : CQ s p P n D mv st K) (hk : m < D) (hn : D ≤ 480) : fX3_isMinute N p (nI m) (mk s) = some (.inl 1, mk s) := by
  obtain ⟨h1, h2, h3, h4⟩ := h
  have hpO := plA_O h1
  unfold fX3_isMinute bX3_isMinute_0
  rw [if_neg (nI_pos (by omega))]
  simp (decide := true) only [ob_s, cS_l, cS_r, gI_k, gR_k, pI_k, pR_k, cV_k, aI_k, tI_k, rZ_0, rZ_1, rZ_i, aR_24, aR_25, aZ_k, tZ_k, rf_3_6, rf_3_7, rf_3_8, rf_5_0, rf_5_1, rf_5_3, rf_5_4, rf_5_5, rf_5_7, rf_6_4, rf_6_11, rf_1_0, rf_1_1, rf_0_6, rf_9_7, rf_9_8, rf_8_0, rf_11_0, rf_11_5, rf_11_6, rf_11_7, rf_11_9, rf_11_10, rf_11_11, rf_11_12, rf_11_3, rf_11_4, Nat.reduceAdd, Nat.zero_add, kc_0, kc_1, kc_34, kc_35, kc_36, kc_37, kc_38, kc_39, kc_40, kc_41, kc_42, kc_43, kc_44, kc_45, kc_46, kc_207, kc_208, kc_209, kc_210, kc_211, kc_212, kc_213, kc_214, kc_215, kc_216, kc_377, kc_378, kc_379, kc_380, kc_381, kc_382, kc_383, kc_384, kc_385, kc_386, kc_387, kc_388, kc_389, kc_390, kc_391, kc_392, kc_393, kc_394, kc_395, kc_414, kc_415, kc_416, kc_417, kc_418, kn_1, kn_36, kn_39, kn_41, kn_42, kn_43, kn_44, kn_45, kn_46, kn_209, kn_211, kn_212, kn_213, kn_214, kn_215, kn_216, kn_378, kn_380, kn_382, kn_383, kn_385, kn_386, kn_388, kn_390, kn_392, kn_393, kn_395, kn_414, kn_415, kn_417, kn_418, hpO.1, h3.1]
  rw [if_neg (nI_ge hk (by omega))]
theorem c_isMin' {x : Int32} (h : CQ s p P n D mv st K) (hx : x < 0 ∨ (¬ x < 0 ∧ nI D ≤ x)) : fX3_isMinute N p x (mk s) = some (.inl 0, mk s) := by
  obtain ⟨h1, h2, h3, h4⟩ := h
  have hpO := plA_O h1
  unfold fX3_isMinute bX3_isMinute_0
  rcases hx with hx | hx
  · rw [if_pos hx]; rfl
  · rw [if_neg hx.1]
    simp (decide := true) only [ob_s, cS_l, cS_r, gI_k, gR_k, pI_k, pR_k, cV_k, aI_k, tI_k, rZ_0, rZ_1, rZ_i, aR_24, aR_25, aZ_k, tZ_k, rf_3_6, rf_3_7, rf_3_8, rf_5_0, rf_5_1, rf_5_3, rf_5_4, rf_5_5, rf_5_7, rf_6_4, rf_6_11, rf_1_0, rf_1_1, rf_0_6, rf_9_7, rf_9_8, rf_8_0, rf_11_0, rf_11_5, rf_11_6, rf_11_7, rf_11_9, rf_11_10, rf_11_11, rf_11_12, rf_11_3, rf_11_4, Nat.reduceAdd, Nat.zero_add, kc_0, kc_1, kc_34, kc_35, kc_36, kc_37, kc_38, kc_39, kc_40, kc_41, kc_42, kc_43, kc_44, kc_45, kc_46, kc_207, kc_208, kc_209, kc_210, kc_211, kc_212, kc_213, kc_214, kc_215, kc_216, kc_377, kc_378, kc_379, kc_380, kc_381, kc_382, kc_383, kc_384, kc_385, kc_386, kc_387, kc_388, kc_389, kc_390, kc_391, kc_392, kc_393, kc_394, kc_395, kc_414, kc_415, kc_416, kc_417, kc_418, kn_1, kn_36, kn_39, kn_41, kn_42, kn_43, kn_44, kn_45, kn_46, kn_209, kn_211, kn_212, kn_213, kn_214, kn_215, kn_216, kn_378, kn_380, kn_382, kn_383, kn_385, kn_386, kn_388, kn_390, kn_392, kn_393, kn_395, kn_414, kn_415, kn_417, kn_418, hpO.1, h3.1]
    rw [if_pos hx.2]
theorem c_reqMin (h : CQ s p P n D mv st K) (hk : m < D) (hn : D ≤ 480) : fX11_requireMinute N 0 (nI m) (mk s) = some (.inl (), mk s) := by
  have hpO := plA_O h.1
  unfold fX11_requireMinute bX11_requireMinute_0
  simp (decide := true) only [ob_s, cS_l, cS_r, gI_k, gR_k, pI_k, pR_k, cV_k, aI_k, tI_k, rZ_0, rZ_1, rZ_i, aR_24, aR_25, aZ_k, tZ_k, rf_3_6, rf_3_7, rf_3_8, rf_5_0, rf_5_1, rf_5_3, rf_5_4, rf_5_5, rf_5_7, rf_6_4, rf_6_11, rf_1_0, rf_1_1, rf_0_6, rf_9_7, rf_9_8, rf_8_0, rf_11_0, rf_11_5, rf_11_6, rf_11_7, rf_11_9, rf_11_10, rf_11_11, rf_11_12, rf_11_3, rf_11_4, Nat.reduceAdd, Nat.zero_add, kc_0, kc_1, kc_34, kc_35, kc_36, kc_37, kc_38, kc_39, kc_40, kc_41, kc_42, kc_43, kc_44, kc_45, kc_46, kc_207, kc_208, kc_209, kc_210, kc_211, kc_212, kc_213, kc_214, kc_215, kc_216, kc_377, kc_378, kc_379, kc_380, kc_381, kc_382, kc_383, kc_384, kc_385, kc_386, kc_387, kc_388, kc_389, kc_390, kc_391, kc_392, kc_393, kc_394, kc_395, kc_414, kc_415, kc_416, kc_417, kc_418, kn_1, kn_36, kn_39, kn_41, kn_42, kn_43, kn_44, kn_45, kn_46, kn_209, kn_211, kn_212, kn_213, kn_214, kn_215, kn_216, kn_378, kn_380, kn_382, kn_383, kn_385, kn_386, kn_388, kn_390, kn_392, kn_393, kn_395, kn_414, kn_415, kn_417, kn_418, h.2.1, hpO.1, c_isMin h hk hn, if_true, if_false]
theorem c_reqMin' {x : Int32} (h : CQ s p P n D mv st K) (hx : x < 0 ∨ (¬ x < 0 ∧ nI D ≤ x)) : fX11_requireMinute N 0 x (mk s) = some (.inr 1, mk s) := by
  have hpO := plA_O h.1
  unfold fX11_requireMinute bX11_requireMinute_0
  simp (decide := true) only [ob_s, cS_l, cS_r, gI_k, gR_k, pI_k, pR_k, cV_k, aI_k, tI_k, rZ_0, rZ_1, rZ_i, aR_24, aR_25, aZ_k, tZ_k, rf_3_6, rf_3_7, rf_3_8, rf_5_0, rf_5_1, rf_5_3, rf_5_4, rf_5_5, rf_5_7, rf_6_4, rf_6_11, rf_1_0, rf_1_1, rf_0_6, rf_9_7, rf_9_8, rf_8_0, rf_11_0, rf_11_5, rf_11_6, rf_11_7, rf_11_9, rf_11_10, rf_11_11, rf_11_12, rf_11_3, rf_11_4, Nat.reduceAdd, Nat.zero_add, kc_0, kc_1, kc_34, kc_35, kc_36, kc_37, kc_38, kc_39, kc_40, kc_41, kc_42, kc_43, kc_44, kc_45, kc_46, kc_207, kc_208, kc_209, kc_210, kc_211, kc_212, kc_213, kc_214, kc_215, kc_216, kc_377, kc_378, kc_379, kc_380, kc_381, kc_382, kc_383, kc_384, kc_385, kc_386, kc_387, kc_388, kc_389, kc_390, kc_391, kc_392, kc_393, kc_394, kc_395, kc_414, kc_415, kc_416, kc_417, kc_418, kn_1, kn_36, kn_39, kn_41, kn_42, kn_43, kn_44, kn_45, kn_46, kn_209, kn_211, kn_212, kn_213, kn_214, kn_215, kn_216, kn_378, kn_380, kn_382, kn_383, kn_385, kn_386, kn_388, kn_390, kn_392, kn_393, kn_395, kn_414, kn_415, kn_417, kn_418, h.2.1, hpO.1, c_isMin' h hx, if_true, if_false]
theorem c_reqWhat {l : Nat} (hw : w ≤ l) (hl : l < 2 ^ 31) : fX11_requireWhat N (nI w) (nI l) (mk s) = some (.inl (), mk s) := by
  unfold fX11_requireWhat bX11_requireWhat_0
  rw [if_neg (nI_pos (by omega)), if_pos (nI_le hw hl)]
theorem c_reqWhat' {x : Int32} {l : Nat} (hx : x < 0 ∨ (¬ x < 0 ∧ nI (l + 1) ≤ x)) (hl : l < 2 ^ 30) : fX11_requireWhat N x (nI l) (mk s) = some (.inr 1, mk s) := by
  unfold fX11_requireWhat bX11_requireWhat_0
  rcases hx with hx | hx
  · rw [if_pos hx]; rfl
  · rw [if_neg hx.1, if_neg]
    · rfl
    · intro q
      have h1 := hx.2
      rw [i32_le, nI_toInt (by omega)] at h1 q
      omega
theorem oo_381 : ooO 381 := ⟨rfl, rfl, rfl, rfl, rfl⟩
theorem c_look (hN : 1000 ≤ N) (h : CQ s p P n D mv st K) (hD : D ≤ 480) : ∃ s', fX11_lookAround N 0 (mk s) = some (.inl (), mk s') ∧ OLk s' 381 p 38 D K ∧ Fr (oD 381) s s' := by
  have hpO := plA_O h.1
  obtain ⟨s', a1, a2, a3⟩ := c_looks (N := N) (p := p) hN oo_381 (stA_O (Or.inl rfl)) (by omega) hD h.2.2.2.2.2.2.2.2.2.2.2
  refine ⟨s', ?_, a2, a3⟩
  unfold fX11_lookAround bX11_lookAround_0
  simp (decide := true) only [ob_s, cS_l, cS_r, gI_k, gR_k, pI_k, pR_k, cV_k, aI_k, tI_k, rZ_0, rZ_1, rZ_i, aR_24, aR_25, aZ_k, tZ_k, rf_3_6, rf_3_7, rf_3_8, rf_5_0, rf_5_1, rf_5_3, rf_5_4, rf_5_5, rf_5_7, rf_6_4, rf_6_11, rf_1_0, rf_1_1, rf_0_6, rf_9_7, rf_9_8, rf_8_0, rf_11_0, rf_11_5, rf_11_6, rf_11_7, rf_11_9, rf_11_10, rf_11_11, rf_11_12, rf_11_3, rf_11_4, Nat.reduceAdd, Nat.zero_add, kc_0, kc_1, kc_34, kc_35, kc_36, kc_37, kc_38, kc_39, kc_40, kc_41, kc_42, kc_43, kc_44, kc_45, kc_46, kc_207, kc_208, kc_209, kc_210, kc_211, kc_212, kc_213, kc_214, kc_215, kc_216, kc_377, kc_378, kc_379, kc_380, kc_381, kc_382, kc_383, kc_384, kc_385, kc_386, kc_387, kc_388, kc_389, kc_390, kc_391, kc_392, kc_393, kc_394, kc_395, kc_414, kc_415, kc_416, kc_417, kc_418, kn_1, kn_36, kn_39, kn_41, kn_42, kn_43, kn_44, kn_45, kn_46, kn_209, kn_211, kn_212, kn_213, kn_214, kn_215, kn_216, kn_378, kn_380, kn_382, kn_383, kn_385, kn_386, kn_388, kn_390, kn_392, kn_393, kn_395, kn_414, kn_415, kn_417, kn_418, h.2.1, hpO.1, h.2.2.1.1, a1]
theorem oD_cQ {x j : Nat} (h : oD 381 x j) : cQ x j := by unfold oD at h; unfold cQ; omega
/-- what a search of the whole leaves -/
def FM (s : sg) (p a E n mv w : Nat) (P : pln) (st : Nat → Int32) (K : Nat → Bool) (T : Nat → Nat) : Prop := Pk s T (MS n T) ∧ CTab s w mv T ∧ SvP s p a E K ∧ FcR s P st K E n ∧ s.1 394 0 = nI (anN (2 ^ n - 1) (hN st))
theorem anN_lt {w H n : Nat} (hw : w < 2 ^ n) : anN w H < 2 ^ n := Nat.lt_of_le_of_lt (anN_le w H) hw
theorem TT_TE (W : Wp P n D mv) (hE : E ≤ 480) (Z : Ws st n D) (hnow : nowN st ≤ E) (w j : Nat) : TT P st K E n mv w j ≤ E ∨ TT P st K E n mv w j = 100000 := (TT_tab (K := K) W hE Z hnow w).2.2.2.2 j
theorem TT_0 (W : Wp P n D mv) (hE : E ≤ 480) (Z : Ws st n D) (hnow : nowN st ≤ E) (w : Nat) : sn (TT P st K E n mv w) 0 = nowN st := by
  have h := TT_tab (K := K) W hE Z hnow w
  have hi := (Ws_n Z W.1 W.2.2.2.1).2.1.2
  unfold sn
  rcases (show inN st = 0 ∨ inN st = 1 by omega) with e | e
  · have h1 := h.1
    have h2 := h.2.1
    rw [e] at h1 h2
    simp only [Nat.mul_zero, Nat.zero_add] at *
    rw [h1, h2]
    omega
  · have h1 := h.1
    have h2 := h.2.1
    rw [e] at h1 h2
    simp only [Nat.mul_zero, Nat.zero_add, Nat.sub_self] at *
    rw [h1, h2]
    omega
theorem c_findMost (hN1 : 1000 ≤ N) (W : Wp P n D mv) (Z : Ws st n D) (hE : E ≤ 480) (hnow : nowN st ≤ E) (hp : plA p) (h3 : s.2.1 0 3 = p) (ha : stA a) (hP : CPl s p P n D mv) (hs : SAt s a st K) : ∃ s', fX11_findMost N 0 a (nI E) (mk s) = some (.inl (), mk s') ∧ FM s' p a E n mv (anN (2 ^ n - 1) (hN st)) P st K (TT P st K E n mv (2 ^ n - 1)) ∧ Fr seD s s' := by
  have hpO := plA_O hp
  have hp2 := plA_le hp
  have ha2 := stA_le ha
  have hn8 := W.1
  have h2 := (Ws_n Z W.1 W.2.2.2.1).2.2.1
  have hpos := Nat.two_pow_pos n
  have hw : anN (2 ^ n - 1) (hN st) < 2 ^ n := anN_lt (by omega)
  have nq : ∀ x j, x < 394 → ¬ seD x j := fun x j h q => by unfold seD at q; omega
  obtain ⟨s1, a1, a2, a3, a4, a5⟩ := c_prepares (N := N) hN1 W hE hp ha Z.2.2.2 h2 hP hs
  have hP1 := CPl_fr hP hn8 a5 (fun x j h1 h2 _ => nq x j (by omega))
  have hs1 := SAt_fr hs a5 (fun x j h1 h2 => nq x j (by omega))
  obtain ⟨s2, b1, b2, b3⟩ := c_spreads (N := N) hN1 W Z hE hnow hp ha hw hP1 hs1 a2 a4
  have hS2 := SvP_fr a2 b3 (by intros; omega) (by intros; omega)
  obtain ⟨s3, d1, d2, d3⟩ := c_picksMost (N := N) (s := s2) hN1 W hE hw (TT_TE (K := K) W hE Z hnow (2 ^ n - 1)) (by rw [TT_0 W hE Z hnow]; omega) hS2.2.2.1 b2
  refine ⟨s3, ?_, ⟨d2, ?_, ?_, ?_, ?_⟩, ?_⟩
  · have h3' : s1.2.1 0 3 = p := (a5.2.1 _ _ (nq _ _ (by omega))).trans h3
    unfold fX11_findMost bX11_findMost_0
    simp (decide := true) only [ob_s, cS_l, cS_r, gI_k, gR_k, pI_k, pR_k, cV_k, aI_k, tI_k, rZ_0, rZ_1, rZ_i, aR_24, aR_25, aZ_k, tZ_k, rf_3_6, rf_3_7, rf_3_8, rf_5_0, rf_5_1, rf_5_3, rf_5_4, rf_5_5, rf_5_7, rf_6_4, rf_6_11, rf_1_0, rf_1_1, rf_0_6, rf_9_7, rf_9_8, rf_8_0, rf_11_0, rf_11_5, rf_11_6, rf_11_7, rf_11_9, rf_11_10, rf_11_11, rf_11_12, rf_11_3, rf_11_4, Nat.reduceAdd, Nat.zero_add, kc_0, kc_1, kc_34, kc_35, kc_36, kc_37, kc_38, kc_39, kc_40, kc_41, kc_42, kc_43, kc_44, kc_45, kc_46, kc_207, kc_208, kc_209, kc_210, kc_211, kc_212, kc_213, kc_214, kc_215, kc_216, kc_377, kc_378, kc_379, kc_380, kc_381, kc_382, kc_383, kc_384, kc_385, kc_386, kc_387, kc_388, kc_389, kc_390, kc_391, kc_392, kc_393, kc_394, kc_395, kc_414, kc_415, kc_416, kc_417, kc_418, kn_1, kn_36, kn_39, kn_41, kn_42, kn_43, kn_44, kn_45, kn_46, kn_209, kn_211, kn_212, kn_213, kn_214, kn_215, kn_216, kn_378, kn_380, kn_382, kn_383, kn_385, kn_386, kn_388, kn_390, kn_392, kn_393, kn_395, kn_414, kn_415, kn_417, kn_418, h3, hpO.1, a1, a3, b1, d1]
  · exact ⟨fun S q h1 h2 => by rw [d3.1 _ _ (by omega)]; exact b2.1 S q h1 h2, b2.2⟩
  · exact ⟨(d3.2.1 _ _ (by omega)).trans hS2.1, (d3.2.1 _ _ (by omega)).trans hS2.2.1, (d3.1 _ _ (by omega)).trans hS2.2.2.1, OLk_fr hS2.2.2.2 d3 (by intros; omega)⟩
  · intro k hk m hm
    rw [d3.1 _ _ (by omega), b3.1 _ _ (by omega)]
    exact a4 k hk m hm
  · rw [d3.1 _ _ (by omega), b3.1 _ _ (by omega)]
    exact a3
  · exact Fr_t (Fr_t a5 (Fr_m b3 (fun x j q => by unfold seD; omega))) (Fr_m d3 (fun x j q => by unfold seD; omega))
end CQS
