/- needs: 24.cday -/
/-! the class's states -/
def stO (a : Nat) : Prop := kc a = 9 ∧ kc (a + 1) = 20 ∧ kn (a + 1) = 8 ∧ skO (a + 2)
def SAt (s : sg) (a : Nat) (st : Nat → Int32) (K : Nat → Bool) : Prop := s.1 a 0 = st 0 ∧ s.1 a 1 = st 1 ∧ s.1 a 2 = st 2 ∧ s.1 a 4 = st 3 ∧ s.1 a 3 = st 4 ∧ s.1 a 5 = st 5 ∧ s.1 a 6 = st 6 ∧ (∀ j, j < 8 → s.1 (a + 1) j = st (7 + j)) ∧ kSky s (a + 2) K
def bz (st : Nat → Int32) : Prop := (st 5 = 0 ∨ st 5 = 1) ∧ (st 6 = 0 ∨ st 6 = 1)
def stD (a x _j : Nat) : Prop := a ≤ x ∧ x ≤ a + 3
theorem SAt_fr {D : Nat → Nat → Prop} {s s' : sg} {a : Nat} {st : Nat → Int32} {K : Nat → Bool} (h : SAt s a st K) (f : Fr D s s') (hd : ∀ x j, a ≤ x → x ≤ a + 3 → ¬ D x j) : SAt s' a st K := by
  obtain ⟨h0, h1, h2, h3, h4, h5, h6, h7, h8⟩ := h
  have e : ∀ j, s'.1 a j = s.1 a j := fun j => f.1 a j (hd a j (by omega) (by omega))
  refine ⟨?_, ?_, ?_, ?_, ?_, ?_, ?_, fun j hj => ?_, kSky_fr h8 f (fun j => hd _ j (by omega) (by omega))⟩
  · rw [e, h0]
  · rw [e, h1]
  · rw [e, h2]
  · rw [e, h3]
  · rw [e, h4]
  · rw [e, h5]
  · rw [e, h6]
  · rw [f.1 _ _ (hd _ j (by omega) (by omega)), h7 j hj]
theorem SAt_ex {s : sg} {a : Nat} {st st' : Nat → Int32} {K K' : Nat → Bool} (h : SAt s a st K) (hs : ∀ j, j < 15 → st j = st' j) (hk : ∀ m, m < 480 → K m = K' m) : SAt s a st' K' := by
  obtain ⟨h0, h1, h2, h3, h4, h5, h6, h7, h8⟩ := h
  exact ⟨h0.trans (hs 0 (by omega)), h1.trans (hs 1 (by omega)), h2.trans (hs 2 (by omega)), h3.trans (hs 3 (by omega)), h4.trans (hs 4 (by omega)), h5.trans (hs 5 (by omega)), h6.trans (hs 6 (by omega)), fun j hj => (h7 j hj).trans (hs (7 + j) (by omega)), fun m hm => (h8 m hm).trans (hk m hm)⟩
section CO
variable {N : Nat} {s : sg} {K : Nat → Bool} {st : Nat → Int32}
theorem c_stCopy {a b : Nat} (ha : stO a) (hb : stO b) (hab : a + 3 < b ∨ b + 3 < a) (hs : SAt s b st K) (hz : bz st) : ∃ s', fX9_copyFrom N a b (mk s) = some (.inl (), mk s') ∧ SAt s' a st K ∧ Fr (stD a) s s' := by
  obtain ⟨a1, a2, a3, a4⟩ := ha
  obtain ⟨b1, b2, b3, b4⟩ := hb
  obtain ⟨h0, h1, h2, h3, h4, h5, h6, h7, h8⟩ := hs
  have nab : ¬ b = a := by omega
  have z5 : st 5 = 0 ∨ st 5 = 1 := hz.1
  have z6 : st 6 = 0 ∨ st 6 = 1 := hz.2
  have cp : ∀ s : sg, cpA .int (mk s) (b + 1) 0 (a + 1) 0 8 = some (mk (sA s (a + 1) (va_cpy (s.1 (b + 1)) (s.1 (a + 1)) 0 0 8))) := fun s => cpA_mk (s := s) (sp := 0) (dp := 0) (m := 8) (kd_p b2 b3) (kd_p a2 a3) (Or.inl ⟨rfl, rfl⟩) (by decide) (by decide) (by decide) (by decide) (by decide) (fun _ _ => rfl)
  unfold fX9_copyFrom bX9_copyFrom_0
  simp (decide := true) only [Option.bind_some, cS_inl, cS_inr, gI_k, gR_k, pI_k, pR_k, cV_k, aI_k, tI_k, rZ_0, rZ_1, rZ_i, aB_k, tB_k, aZ_k, tZ_k, aR_24, aR_25, aR_27, rf_0_6, rf_0_7, rf_0_8, rf_0_9, rf_1_0, rf_1_1, rf_2_2, rf_3_6, rf_3_7, rf_3_8, rf_4_1, rf_4_3, rf_4_4, rf_5_0, rf_5_1, rf_5_3, rf_5_4, rf_5_5, rf_5_7, rf_6_4, rf_6_9, rf_6_10, rf_6_11, rf_6_12, rf_6_5, rf_8_0, rf_9_7, rf_9_8, rf_10_2, rf_11_0, rf_11_5, rf_11_6, rf_11_7, rf_11_9, rf_11_10, rf_11_11, rf_11_12, rf_24, rf_27, a1, b1, a4.1, pZ_k, sI_c, nab, false_and, if_false, h0, h1, h2, h3, h4, h5, h6, z5, z6, cp]
  have hk : kSky (sA (sI (sI (sI (sI (sI (sI (sI s a 0 (st 0)) a 1 (st 1)) a 2 (st 2)) a 3 (st 4)) a 4 (st 3)) a 5 (st 5)) a 6 (st 6)) (a + 1) (va_cpy (s.1 (b + 1)) (s.1 (a + 1)) 0 0 8)) (b + 2) K := fun m hm => by
    rw [sA_1, if_neg (by omega)]
    simp only [sI_c]
    simp only [show ¬ b + 2 + 1 = a by omega, false_and, if_false]
    exact h8 m hm
  have er : ∀ x, x ≠ a → (sI (sI (sI (sI (sI (sI (sI s a 0 (st 0)) a 1 (st 1)) a 2 (st 2)) a 3 (st 4)) a 4 (st 3)) a 5 (st 5)) a 6 (st 6)).1 x = s.1 x := fun x hx => by
    funext j
    simp only [sI_c, hx, false_and, if_false]
  rw [er (b + 1) (by omega), er (a + 1) (by omega)]
  rw [c_skCopy a4 b4 hk]
  simp only [cS_inl]
  refine ⟨_, rfl, ⟨?_, ?_, ?_, ?_, ?_, ?_, ?_, fun j hj => ?_, kSky_cp hk⟩, ?_⟩
  · simp [sA_1, sI_c, show ¬ a = a + 2 + 1 by omega]
  · simp [sA_1, sI_c, show ¬ a = a + 2 + 1 by omega]
  · simp [sA_1, sI_c, show ¬ a = a + 2 + 1 by omega]
  · simp [sA_1, sI_c, show ¬ a = a + 2 + 1 by omega]
  · simp [sA_1, sI_c, show ¬ a = a + 2 + 1 by omega]
  · simp [sA_1, sI_c, show ¬ a = a + 2 + 1 by omega]
  · simp [sA_1, sI_c, show ¬ a = a + 2 + 1 by omega]
  · rw [sA_1, if_neg (by omega), sA_1, if_pos rfl]
    unfold va_cpy
    rw [if_pos (by omega), show 0 + (j - 0) = j by omega]
    exact h7 j hj
  · have w : ∀ j, stD a a j := fun j => ⟨by omega, by omega⟩
    refine Fr_t ?_ (Fr_sA (fun j => ⟨by omega, by omega⟩))
    refine Fr_t ?_ (Fr_sA (fun j => ⟨by omega, by omega⟩))
    exact Fr_t (Fr_t (Fr_t (Fr_t (Fr_t (Fr_t (Fr_sI (w 0)) (Fr_sI (w 1))) (Fr_sI (w 2))) (Fr_sI (w 3))) (Fr_sI (w 4))) (Fr_sI (w 5))) (Fr_sI (w 6))
theorem c_isHad {a : Nat} {k : Int32} (ha : stO a) (hs : SAt s a st K) : fX9_isHad N a k (mk s) = some (.inl (sk_i (sBit (st 2) k)), mk s) := by
  unfold fX9_isHad bX9_isHad_0 sBit
  simp (decide := true) only [Option.bind_some, cS_inl, cS_inr, gI_k, gR_k, pI_k, pR_k, cV_k, aI_k, tI_k, rZ_0, rZ_1, rZ_i, aB_k, tB_k, aZ_k, tZ_k, aR_24, aR_25, aR_27, rf_0_6, rf_0_7, rf_0_8, rf_0_9, rf_1_0, rf_1_1, rf_2_2, rf_3_6, rf_3_7, rf_3_8, rf_4_1, rf_4_3, rf_4_4, rf_5_0, rf_5_1, rf_5_3, rf_5_4, rf_5_5, rf_5_7, rf_6_4, rf_6_9, rf_6_10, rf_6_11, rf_6_12, rf_6_5, rf_8_0, rf_9_7, rf_9_8, rf_10_2, rf_11_0, rf_11_5, rf_11_6, rf_11_7, rf_11_9, rf_11_10, rf_11_11, rf_11_12, rf_24, rf_27, ha.1, hs.2.2.1]
  by_cases h : (st 2 >>> (k &&& 31)) &&& 1 = 1
  · simp [h, sk_i]
  · simp [h, sk_i]
/-- waiting -/
def sWt (st : Nat → Int32) (n : Int32) : Nat → Int32 := fun j => if j = 0 then st 0 + n else if j = 3 then st 3 + n else st j
theorem c_waits {a : Nat} {n : Int32} (ha : stO a) (hs : SAt s a st K) : ∃ s', fX9_waits N a n (mk s) = some (.inl (), mk s') ∧ SAt s' a (sWt st n) K ∧ Fr (stD a) s s' := by
  obtain ⟨h0, h1, h2, h3, h4, h5, h6, h7, h8⟩ := hs
  unfold fX9_waits bX9_waits_0
  simp (decide := true) only [Option.bind_some, cS_inl, cS_inr, gI_k, gR_k, pI_k, pR_k, cV_k, aI_k, tI_k, rZ_0, rZ_1, rZ_i, aB_k, tB_k, aZ_k, tZ_k, aR_24, aR_25, aR_27, rf_0_6, rf_0_7, rf_0_8, rf_0_9, rf_1_0, rf_1_1, rf_2_2, rf_3_6, rf_3_7, rf_3_8, rf_4_1, rf_4_3, rf_4_4, rf_5_0, rf_5_1, rf_5_3, rf_5_4, rf_5_5, rf_5_7, rf_6_4, rf_6_9, rf_6_10, rf_6_11, rf_6_12, rf_6_5, rf_8_0, rf_9_7, rf_9_8, rf_10_2, rf_11_0, rf_11_5, rf_11_6, rf_11_7, rf_11_9, rf_11_10, rf_11_11, rf_11_12, rf_24, rf_27, ha.1, sI_c, and_true, and_false, if_true, if_false, h0, h3]
  have w : ∀ j, stD a a j := fun j => ⟨by omega, by omega⟩
  have f : Fr (stD a) s (sI (sI s a 0 (st 0 + n)) a 4 (st 3 + n)) := Fr_t (Fr_sI (w 0)) (Fr_sI (w 4))
  refine ⟨_, rfl, ⟨?_, ?_, ?_, ?_, ?_, ?_, ?_, fun j hj => ?_, fun m hm => ?_⟩, f⟩
  · simp [sI_c, sWt]
  · simp [sI_c, sWt, h1]
  · simp [sI_c, sWt, h2]
  · simp [sI_c, sWt]
  · simp [sI_c, sWt, h4]
  · simp [sI_c, sWt, h5]
  · simp [sI_c, sWt, h6]
  · simp [sI_c, sWt, h7 j hj]; omega
  · simp only [sI_c, show ¬ a + 2 + 1 = a by omega, false_and, if_false]; exact h8 m hm
theorem c_goesOver {a : Nat} {n : Int32} (ha : stO a) (hs : SAt s a st K) (hi : st 1 = 0 ∨ st 1 = 1) : ∃ s', fX9_goesOver N a n (mk s) = some (.inl (), mk s') ∧ SAt s' a (sMv st n) K ∧ Fr (stD a) s s' := by
  obtain ⟨h0, h1, h2, h3, h4, h5, h6, h7, h8⟩ := hs
  have w : ∀ j, stD a a j := fun j => ⟨by omega, by omega⟩
  have e : fX9_goesOver N a n (mk s) = some (.inl (), mk (sI (sI (sI s a 1 (1 - st 1)) a 0 (st 0 + n)) a 4 0)) := by
    unfold fX9_goesOver bX9_goesOver_0 bX9_goesOver_13
    simp (decide := true) only [Option.bind_some, cS_inl, cS_inr, gI_k, gR_k, pI_k, pR_k, cV_k, aI_k, tI_k, rZ_0, rZ_1, rZ_i, aB_k, tB_k, aZ_k, tZ_k, aR_24, aR_25, aR_27, rf_0_6, rf_0_7, rf_0_8, rf_0_9, rf_1_0, rf_1_1, rf_2_2, rf_3_6, rf_3_7, rf_3_8, rf_4_1, rf_4_3, rf_4_4, rf_5_0, rf_5_1, rf_5_3, rf_5_4, rf_5_5, rf_5_7, rf_6_4, rf_6_9, rf_6_10, rf_6_11, rf_6_12, rf_6_5, rf_8_0, rf_9_7, rf_9_8, rf_10_2, rf_11_0, rf_11_5, rf_11_6, rf_11_7, rf_11_9, rf_11_10, rf_11_11, rf_11_12, rf_24, rf_27, ha.1, sI_c, and_true, and_false, if_true, if_false, h0, h1]
    rcases hi with h | h <;> rw [h] <;> rfl
  have f : Fr (stD a) s (sI (sI (sI s a 1 (1 - st 1)) a 0 (st 0 + n)) a 4 0) := Fr_t (Fr_t (Fr_sI (w 1)) (Fr_sI (w 0))) (Fr_sI (w 4))
  refine ⟨_, e, ⟨?_, ?_, ?_, ?_, ?_, ?_, ?_, fun j hj => ?_, fun m hm => ?_⟩, f⟩
  · simp [sI_c, sMv]
  · simp [sI_c, sMv]
  · simp [sI_c, sMv, h2]
  · simp [sI_c, sMv]
  · simp [sI_c, sMv, h4]
  · simp [sI_c, sMv, h5]
  · simp [sI_c, sMv, h6]
  · simp [sI_c, sMv, h7 j hj, show ¬ 7 + j = 0 by omega, show ¬ 7 + j = 1 by omega, show ¬ 7 + j = 3 by omega]
  · simp only [sI_c, show ¬ a + 2 + 1 = a by omega, false_and, if_false]; exact h8 m hm
/-- lamps or silk -/
def sOn (st : Nat → Int32) (w : Nat) (on : Bool) : Nat → Int32 := fun j => if j = 5 + w then sk_i on else st j
theorem c_putOn {a w : Nat} {on : Bool} (ha : stO a) (hs : SAt s a st K) (hw : w < 2) : ∃ s', fX9_putOn N a (nI w) (sk_i on) (mk s) = some (.inl (), mk s') ∧ SAt s' a (sOn st w on) K ∧ Fr (stD a) s s' := by
  obtain ⟨h0, h1, h2, h3, h4, h5, h6, h7, h8⟩ := hs
  have wd : ∀ j, stD a a j := fun j => ⟨by omega, by omega⟩
  have zo : sk_i on = 0 ∨ sk_i on = 1 := by cases on <;> simp [sk_i]
  have e : fX9_putOn N a (nI w) (sk_i on) (mk s) = some (.inl (), mk (sI s a (5 + w) (sk_i on))) := by
    unfold fX9_putOn bX9_putOn_0
    rcases (show w = 0 ∨ w = 1 by omega) with rfl | rfl
    · rw [if_neg (fun q => q rfl)]
      simp (decide := true) only [Option.bind_some, cS_inl, cS_inr, gI_k, gR_k, pI_k, pR_k, cV_k, aI_k, tI_k, rZ_0, rZ_1, rZ_i, aB_k, tB_k, aZ_k, tZ_k, aR_24, aR_25, aR_27, rf_0_6, rf_0_7, rf_0_8, rf_0_9, rf_1_0, rf_1_1, rf_2_2, rf_3_6, rf_3_7, rf_3_8, rf_4_1, rf_4_3, rf_4_4, rf_5_0, rf_5_1, rf_5_3, rf_5_4, rf_5_5, rf_5_7, rf_6_4, rf_6_9, rf_6_10, rf_6_11, rf_6_12, rf_6_5, rf_8_0, rf_9_7, rf_9_8, rf_10_2, rf_11_0, rf_11_5, rf_11_6, rf_11_7, rf_11_9, rf_11_10, rf_11_11, rf_11_12, rf_24, rf_27, ha.1, pZ_k, zo]
    · rw [if_pos (by decide)]
      simp (decide := true) only [Option.bind_some, cS_inl, cS_inr, gI_k, gR_k, pI_k, pR_k, cV_k, aI_k, tI_k, rZ_0, rZ_1, rZ_i, aB_k, tB_k, aZ_k, tZ_k, aR_24, aR_25, aR_27, rf_0_6, rf_0_7, rf_0_8, rf_0_9, rf_1_0, rf_1_1, rf_2_2, rf_3_6, rf_3_7, rf_3_8, rf_4_1, rf_4_3, rf_4_4, rf_5_0, rf_5_1, rf_5_3, rf_5_4, rf_5_5, rf_5_7, rf_6_4, rf_6_9, rf_6_10, rf_6_11, rf_6_12, rf_6_5, rf_8_0, rf_9_7, rf_9_8, rf_10_2, rf_11_0, rf_11_5, rf_11_6, rf_11_7, rf_11_9, rf_11_10, rf_11_11, rf_11_12, rf_24, rf_27, ha.1, pZ_k, zo]
  refine ⟨_, e, ⟨?_, ?_, ?_, ?_, ?_, ?_, ?_, fun j hj => ?_, fun m hm => ?_⟩, Fr_sI (wd _)⟩
  · simp [sI_c, sOn, h0, show ¬ 0 = 5 + w by omega]
  · simp [sI_c, sOn, h1, show ¬ 1 = 5 + w by omega]
  · simp [sI_c, sOn, h2, show ¬ 2 = 5 + w by omega]
  · simp [sI_c, sOn, h3, show ¬ 4 = 5 + w by omega, show ¬ 3 = 5 + w by omega]
  · simp [sI_c, sOn, h4, show ¬ 4 = 5 + w by omega, show ¬ 3 = 5 + w by omega]
  · simp [sI_c, sOn, h5]
  · simp [sI_c, sOn, h6]
  · simp [sI_c, sOn, h7 j hj, show ¬ 7 + j = 5 + w by omega]
  · simp only [sI_c, show ¬ a + 2 + 1 = a by omega, false_and, if_false]; exact h8 m hm
/-! the outlook -/
def ooO (o : Nat) : Prop := kc o = 1 ∧ kc (o + 1) = 20 ∧ kn (o + 1) = 481 ∧ kc (o + 2) = 20 ∧ kn (o + 2) = 480
def oD (o x _j : Nat) : Prop := o ≤ x ∧ x ≤ o + 2
def lgt (b : Bool) : Int32 := if b then 1 else 2
theorem lgt_inj {a b : Bool} : lgt a = lgt b ↔ a = b := by cases a <;> cases b <;> decide
def LkI (s : sg) (o D : Nat) (K : Nat → Bool) (i : Nat) : Prop := ∀ m, i ≤ m → m < D → s.1 (o + 1) m = nI (stays K D m) ∧ s.1 (o + 2) m = lgt (K m)
def lkn (K : Nat → Bool) (D i : Nat) : Int32 := if i < D then lgt (K i) else 0
theorem c_looks46 {o a D : Nat} (ho : ooO o) (ha : stO a) (hoa : a + 3 < o) (hD : D ≤ 480) : ∀ (f i : Nat) (s : sg), i < f → i ≤ D → kSky s (a + 2) K → LkI s o D K i → ∃ s', lX1_looks_46 N f o a (lkn K D i) (nI i - 1) (mk s) = some (.inl (), mk s') ∧ LkI s' o D K 0 ∧ Fr (fun x _ => x = o + 1 ∨ x = o + 2) s s' := by
  obtain ⟨o1, o2, o3, o4, o5⟩ := ho
  obtain ⟨a1, a2, a3, a4⟩ := ha
  intro f
  induction f with
  | zero => intro i s hf; omega
  | succ f ih =>
    intro i s hf hi hK hL
    show ∃ s', bX1_looks_46 N (lX1_looks_46 N f) o a (lkn K D i) (nI i - 1) (mk s) = _ ∧ _
    unfold bX1_looks_46
    cases i with
    | zero => exact ⟨s, if_pos (by decide), hL, Fr_r _ _⟩
    | succ g =>
      rw [nI_pred, if_neg (nI_pos (by omega))]
      have i1 : inB (nI g) 480 = true := inA_nI (by omega) (by omega)
      have i2 : inB (nI g) 481 = true := inA_nI (by omega) (by omega)
      have i3 : inB (nI g + 1) 481 = true := by rw [nI_1]; exact inA_nI (by omega) (by omega)
      have c3 : (nI g + 1).toNatClampNeg = g + 1 := by rw [nI_1, nI_clamp (by omega)]
      have em : nI g + -1 = nI g - 1 := by rw [Int32.sub_eq_add_neg]
      simp (decide := true) only [Option.bind_some, cS_inl, cS_inr, gI_k, gR_k, pI_k, pR_k, cV_k, aI_k, tI_k, rZ_0, rZ_1, rZ_i, aB_k, tB_k, aZ_k, tZ_k, aR_24, aR_25, aR_27, rf_0_6, rf_0_7, rf_0_8, rf_0_9, rf_1_0, rf_1_1, rf_2_2, rf_3_6, rf_3_7, rf_3_8, rf_4_1, rf_4_3, rf_4_4, rf_5_0, rf_5_1, rf_5_3, rf_5_4, rf_5_5, rf_5_7, rf_6_4, rf_6_9, rf_6_10, rf_6_11, rf_6_12, rf_6_5, rf_8_0, rf_9_7, rf_9_8, rf_10_2, rf_11_0, rf_11_5, rf_11_6, rf_11_7, rf_11_9, rf_11_10, rf_11_11, rf_11_12, rf_24, rf_27, a1, a4.1, o1, c_isSun a4 hK (show g < 480 by omega), sk_0]
      have key : ∀ x : Int32, x = lgt (K g) → ∃ s', bX1_looks_74 N (lX1_looks_46 N f) o a (lkn K D (g + 1)) (nI g) (o + 2) (nI g) x (mk s) = some (.inl (), mk s') ∧ LkI s' o D K 0 ∧ Fr (fun x _ => x = o + 1 ∨ x = o + 2) s s' := by
        intro x hx
        subst hx
        unfold bX1_looks_74
        simp (decide := true) only [Option.bind_some, cS_inl, cS_inr, gI_k, gR_k, pI_k, pR_k, cV_k, aI_k, tI_k, rZ_0, rZ_1, rZ_i, aB_k, tB_k, aZ_k, tZ_k, aR_24, aR_25, aR_27, rf_0_6, rf_0_7, rf_0_8, rf_0_9, rf_1_0, rf_1_1, rf_2_2, rf_3_6, rf_3_7, rf_3_8, rf_4_1, rf_4_3, rf_4_4, rf_5_0, rf_5_1, rf_5_3, rf_5_4, rf_5_5, rf_5_7, rf_6_4, rf_6_9, rf_6_10, rf_6_11, rf_6_12, rf_6_5, rf_8_0, rf_9_7, rf_9_8, rf_10_2, rf_11_0, rf_11_5, rf_11_6, rf_11_7, rf_11_9, rf_11_10, rf_11_11, rf_11_12, rf_24, rf_27, o1, o2, o3, o4, o5, i1, i2, i3, c3, nI_clamp (show g < 2 ^ 31 by omega), sI_c, and_self, if_true]
        have fin : ∀ x : Int32, x = nI (stays K D g) → ∃ s', bX1_looks_108 N (lX1_looks_46 N f) o a (nI g) (o + 1) (nI g) x (mk (sI s (o + 2) g (lgt (K g)))) = some (.inl (), mk s') ∧ LkI s' o D K 0 ∧ Fr (fun x _ => x = o + 1 ∨ x = o + 2) s s' := by
          intro x hx
          subst hx
          unfold bX1_looks_108
          simp (decide := true) only [Option.bind_some, cS_inl, cS_inr, gI_k, gR_k, pI_k, pR_k, cV_k, aI_k, tI_k, rZ_0, rZ_1, rZ_i, aB_k, tB_k, aZ_k, tZ_k, aR_24, aR_25, aR_27, rf_0_6, rf_0_7, rf_0_8, rf_0_9, rf_1_0, rf_1_1, rf_2_2, rf_3_6, rf_3_7, rf_3_8, rf_4_1, rf_4_3, rf_4_4, rf_5_0, rf_5_1, rf_5_3, rf_5_4, rf_5_5, rf_5_7, rf_6_4, rf_6_9, rf_6_10, rf_6_11, rf_6_12, rf_6_5, rf_8_0, rf_9_7, rf_9_8, rf_10_2, rf_11_0, rf_11_5, rf_11_6, rf_11_7, rf_11_9, rf_11_10, rf_11_11, rf_11_12, rf_24, rf_27, o1, o2, o3, o4, o5, i1, i2, nI_clamp (show g < 2 ^ 31 by omega), sI_c, and_self, if_true, em]
          simp only [show ¬ o + 2 = o + 1 by omega, false_and, if_false]
          have f1 : Fr (fun x _ => x = o + 1 ∨ x = o + 2) s (sI (sI s (o + 2) g (lgt (K g))) (o + 1) g (nI (stays K D g))) := Fr_t (Fr_sI (Or.inr rfl)) (Fr_sI (Or.inl rfl))
          have hL2 : LkI (sI (sI s (o + 2) g (lgt (K g))) (o + 1) g (nI (stays K D g))) o D K g := by
            intro m hm hm2
            simp only [sI_c]
            by_cases e : m = g
            · subst e; simp
            · obtain ⟨q1, q2⟩ := hL m (by omega) hm2
              simp [e, q1, q2]
          have hk2 := kSky_fr hK f1 (fun j => by omega)
          obtain ⟨s', b1, b2, b3⟩ := ih g _ (by omega) (by omega) hk2 hL2
          rw [show lkn K D g = lgt (K g) by unfold lkn; rw [if_pos (by omega)]] at b1
          exact ⟨s', b1, b2, Fr_t f1 b3⟩
        by_cases c1 : g + 1 < D ∧ K (g + 1) = K g
        · have e1 : lgt (K g) = lkn K D (g + 1) := by unfold lkn; rw [if_pos c1.1, c1.2]
          rw [if_neg (fun q => q e1)]
          apply fin
          simp only [show ¬ o + 1 = o + 2 by omega, false_and, if_false]
          rw [(hL (g + 1) (by omega) c1.1).1, nI_1, stays_step (show g < D by omega), if_pos c1]
        · have e1 : ¬ lgt (K g) = lkn K D (g + 1) := by
            intro q
            unfold lkn at q
            by_cases c2 : g + 1 < D
            · rw [if_pos c2, lgt_inj] at q
              exact c1 ⟨c2, q.symm⟩
            · rw [if_neg c2] at q
              revert q
              cases K g <;> decide
          rw [if_pos e1]
          apply fin
          rw [stays_step (show g < D by omega), if_neg c1]
          rfl
      cases hk : K g
      · rw [if_pos rfl]; exact key 2 (by rw [hk]; rfl)
      · rw [if_neg (by decide)]; exact key 1 (by rw [hk]; rfl)
/-- what an outlook shows -/
def OLk (s : sg) (o p a D : Nat) (K : Nat → Bool) : Prop := s.2.1 o 2 = p ∧ s.2.1 o 3 = a ∧ s.1 o 4 = nI D ∧ LkI s o D K 0
theorem OLk_fr {D' : Nat → Nat → Prop} {s s' : sg} {o p a D : Nat} (h : OLk s o p a D K) (f : Fr D' s s') (hd : ∀ x j, o ≤ x → x ≤ o + 2 → ¬ D' x j) : OLk s' o p a D K := by
  obtain ⟨h1, h2, h3, h4⟩ := h
  refine ⟨?_, ?_, ?_, fun m hm hm2 => ?_⟩
  · rw [f.2.1 _ _ (hd o _ (by omega) (by omega)), h1]
  · rw [f.2.1 _ _ (hd o _ (by omega) (by omega)), h2]
  · rw [f.1 _ _ (hd o _ (by omega) (by omega)), h3]
  · rw [f.1 _ _ (hd _ _ (by omega) (by omega)), f.1 _ _ (hd _ _ (by omega) (by omega))]
    exact h4 m hm hm2
theorem c_looks {o p a D : Nat} (hN : 1000 ≤ N) (ho : ooO o) (ha : stO a) (hoa : a + 3 < o) (hD : D ≤ 480) (hK : kSky s (a + 2) K) : ∃ s', fX1_looks N o p a (nI D) (mk s) = some (.inl (), mk s') ∧ OLk s' o p a D K ∧ Fr (oD o) s s' := by
  have ho' := ho
  obtain ⟨o1, o2, o3, o4, o5⟩ := ho
  have i1 : inB (nI D) 481 = true := inA_nI (by omega) (by omega)
  have e1 : mxI 0 (mnI (nI D) 480) = nI D := by
    rw [show (480 : Int32) = nI 480 from rfl, mn_nI (by omega) (by omega), show (0 : Int32) = nI 0 from rfl, mx_nI (by omega) (by omega)]
    congr 1
    omega
  unfold fX1_looks bX1_looks_0
  simp (decide := true) only [Option.bind_some, cS_inl, cS_inr, gI_k, gR_k, pI_k, pR_k, cV_k, aI_k, tI_k, rZ_0, rZ_1, rZ_i, aB_k, tB_k, aZ_k, tZ_k, aR_24, aR_25, aR_27, rf_0_6, rf_0_7, rf_0_8, rf_0_9, rf_1_0, rf_1_1, rf_2_2, rf_3_6, rf_3_7, rf_3_8, rf_4_1, rf_4_3, rf_4_4, rf_5_0, rf_5_1, rf_5_3, rf_5_4, rf_5_5, rf_5_7, rf_6_4, rf_6_9, rf_6_10, rf_6_11, rf_6_12, rf_6_5, rf_8_0, rf_9_7, rf_9_8, rf_10_2, rf_11_0, rf_11_5, rf_11_6, rf_11_7, rf_11_9, rf_11_10, rf_11_11, rf_11_12, rf_24, rf_27, o1, o2, o3, im_1_2, im_1_3, e1, sI_c, and_self, if_true, i1, nI_clamp (show D < 2 ^ 31 by omega)]
  simp only [show ¬ o = o + 1 by omega, false_and, if_false]
  have w : ∀ j, oD o o j := fun j => ⟨by omega, by omega⟩
  have f0 : Fr (oD o) s (sI (sI (sR (sR s o 2 p) o 3 a) o 4 (nI D)) (o + 1) D 0) := Fr_t (Fr_t (Fr_t (Fr_sR (w 2)) (Fr_sR (w 3))) (Fr_sI (w 4))) (Fr_sI ⟨by omega, by omega⟩)
  have hk2 := kSky_fr hK f0 (fun j q => by unfold oD at q; omega)
  have hl : (0 : Int32) = lkn K D D := by unfold lkn; rw [if_neg (by omega)]
  obtain ⟨s', b1, b2, b3⟩ := c_looks46 (N := N) ho' ha hoa hD N D _ (by omega) (by omega) hk2 (fun m hm hm2 => by omega)
  rw [← hl] at b1
  refine ⟨s', b1, ⟨?_, ?_, ?_, b2⟩, Fr_t f0 (Fr_m b3 (fun x j q => by unfold oD; omega))⟩
  · rw [b3.2.1 _ _ (by omega)]; simp [sI_r, sR_2]
  · rw [b3.2.1 _ _ (by omega)]; simp [sI_r, sR_2]
  · rw [b3.1 _ _ (by omega)]; simp [sI_c]
end CO
