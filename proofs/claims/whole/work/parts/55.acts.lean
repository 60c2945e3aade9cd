/- needs: 54.rkeep -/
/-! scenes, and the class's acts -/
/-- a scene: the state, the sky; the kept ones; the seen ones; what was refused -/
abbrev scn : Type := (Nat → Int32) × (Nat → Bool) × (Nat × (Nat → Nat → Int32) × (Nat → Nat → Bool)) × (Nat × (Nat → Nat) × (Nat → Nat) × (Nat → Bool)) × (Nat → Int32)
def ScC (s : sg) (c : Nat) (S : scn) : Prop := Pm s c ∧ SAt s (c + 1) S.1 S.2.1 ∧ HsC s c S.2.2.1.1 S.2.2.1.2.1 S.2.2.1.2.2 ∧ SnC s c S.2.2.2.1.1 S.2.2.2.1.2.1 S.2.2.2.1.2.2.1 S.2.2.2.1.2.2.2 ∧ ∀ j, j < 3 → s.1 (c + 9) j = S.2.2.2.2 j
def WS (n D : Nat) (S : scn) : Prop := Ws S.1 n D ∧ S.2.2.1.1 ≤ 40 ∧ (∀ i, i < S.2.2.1.1 → Ws (S.2.2.1.2.1 i) n D) ∧ Wn n S.2.2.2.1.1 S.2.2.2.1.2.1 S.2.2.2.1.2.2.1
def kpS (S : scn) (st : Nat → Int32) (K : Nat → Bool) : scn := (st, K, (naK S.2.2.1.1, hsK S.2.2.1.1 S.2.2.1.2.1 S.1, hsK S.2.2.1.1 S.2.2.1.2.2 S.2.1), S.2.2.2)
def rfS (S : scn) (w : Nat) : scn := (S.1, S.2.1, S.2.2.1, S.2.2.2.1, fun j => if j = w then S.2.2.2.2 w + 1 else S.2.2.2.2 j)
theorem WS_kp {n D : Nat} {S : scn} {st : Nat → Int32} (K : Nat → Bool) (h : WS n D S) (Z : Ws st n D) : WS n D (kpS S st K) := by
  obtain ⟨h1, h2, h3, h4⟩ := h
  refine ⟨Z, ?_, fun i hi => ?_, h4⟩
  · show naK S.2.2.1.1 ≤ 40
    unfold naK
    split <;> omega
  · show Ws (hsK S.2.2.1.1 S.2.2.1.2.1 S.1 i) n D
    have hi' : i < naK S.2.2.1.1 := hi
    unfold naK at hi'
    unfold hsK
    by_cases e : S.2.2.1.1 = 40
    · rw [if_pos e] at hi' ⊢
      by_cases e2 : i = 39
      · rw [if_pos e2]; exact h1
      · rw [if_neg e2]; exact h3 _ (by omega)
    · rw [if_neg e] at hi' ⊢
      by_cases e2 : i = S.2.2.1.1
      · rw [if_pos e2]; exact h1
      · rw [if_neg e2]; exact h3 _ (by omega)
theorem WS_rf {n D : Nat} {S : scn} (w : Nat) (h : WS n D S) : WS n D (rfS S w) := h
theorem ScC_fr {Q : Nat → Nat → Prop} {s s' : sg} {c : Nat} {S : scn} (h : ScC s c S) (hna : S.2.2.1.1 ≤ 40) (f : Fr Q s s') (hq : ∀ x j, c ≤ x → x < c + 170 → ¬ Q x j) : ScC s' c S := by
  obtain ⟨h1, h2, h3, h4, h5⟩ := h
  exact ⟨Pm_fr h1 f (fun j => hq _ j (by omega) (by omega)), SAt_fr h2 f (fun x j g1 g2 => hq x j (by omega) (by omega)), HsC_fr h3 h1 hna f (fun j => hq _ j (by omega) (by omega)) (hq _ _ (by omega) (by omega)) (fun x j g1 g2 => hq x j (by omega) (by omega)), SnC_fr h4 f (hq _ _ (by omega) (by omega)) (fun x j g1 g2 => hq x j (by omega) (by omega)), fun j hj => (f.1 _ _ (hq _ _ (by omega) (by omega))).trans (h5 j hj)⟩
def CM (s : sg) (p : Nat) (P : pln) (n D mv nr : Nat) (q : Nat → Int32) (b : Nat → Nat) (S : scn) : Prop := CR2 s p P n D mv nr q b S.1 S.2.1 ∧ ScC s 37 S
def cM (x j : Nat) : Prop := cQ x j ∨ (37 ≤ x ∧ x < 207)
def pTake (P : pln) (D : Nat) (S : scn) (k : Nat) : Int32 × scn := if nowN S.1 < D ∧ sWhy P S.1 S.2.1 D k (nowN S.1) = 0 then (sk_i (sEn P S.1 S.2.1 D k (nowN S.1) (ln P k)), kpS S (sTk S.1 k (sGo P S.1 S.2.1 k (nowN S.1) (ln P k - 1) 1) (sEn P S.1 S.2.1 D k (nowN S.1) (ln P k))) S.2.1) else (-1, rfS S 1)
def pAwait (D : Nat) (S : scn) (x : Int32) : Int32 × scn := if ¬ x < 1 ∧ ¬ 60 < x ∧ S.1 0 + x ≤ nI D then (S.1 0 + x, kpS S (sWt S.1 x) S.2.1) else (-1, rfS S 1)
def pMove (D mv : Nat) (S : scn) (on : Bool) : Int32 × scn := if ¬ S.1 1 = sk_i on ∧ S.1 0 + nI mv ≤ nI D then (S.1 0 + nI mv, kpS S (sMv S.1 (nI mv)) S.2.1) else (-1, rfS S 1)
def pSets (S : scn) (w : Nat) (on : Bool) : Int32 × scn := (S.1 (5 + w), kpS S (sOn S.1 w on) S.2.1)
def pClouds (S : scn) (u v : Nat) (on : Bool) : Int32 × scn := (nI (dif S.2.1 on (v + 1 - u) u), kpS S S.1 (pnt S.2.1 on u (v + 1)))
def pUndo (S : scn) : Int32 × scn := if S.2.2.1.1 = 0 then (-1, S) else (nI (S.2.2.1.1 - 1), (S.2.2.1.2.1 (S.2.2.1.1 - 1), S.2.2.1.2.2 (S.2.2.1.1 - 1), (S.2.2.1.1 - 1, S.2.2.1.2), S.2.2.2))
def pSee (S : scn) (k : Nat) (x : Int32) (on : Bool) : Int32 × scn := if ¬ x < 0 ∧ ¬ 480 ≤ x ∧ S.2.2.2.1.1 < 8 then (nI (S.2.2.2.1.1 + 1), (S.1, S.2.1, S.2.2.1, (S.2.2.2.1.1 + 1, (fun i => if i = S.2.2.2.1.1 then k else S.2.2.2.1.2.1 i), (fun i => if i = S.2.2.2.1.1 then x.toNatClampNeg else S.2.2.2.1.2.2.1 i), (fun i => if i = S.2.2.2.1.1 then on else S.2.2.2.1.2.2.2 i)), S.2.2.2.2)) else (-1, rfS S 2)
def pForget (S : scn) : scn := (S.1, S.2.1, S.2.2.1, (0, S.2.2.2.1.2), S.2.2.2.2)
section AC
variable {N : Nat} {s : sg} {P : pln} {n D mv k m nr p w u v : Nat} {q : Nat → Int32} {b : Nat → Nat} {S : scn} {on : Bool}
theorem CR2_g {Q : Nat → Nat → Prop} {s' : sg} {st st' : Nat → Int32} {K K' : Nat → Bool} (h : CR2 s p P n D mv nr q b st K) (hn : n ≤ 8) (f : Fr Q s s') (hq : ∀ x j, x < 37 → ¬ Q x j) (hS : SAt s' 38 st' K') : CR2 s' p P n D mv nr q b st' K' := by
  have hp := plA_le h.1.1
  exact ⟨⟨h.1.1, (f.2.1 _ _ (hq _ _ (by omega))).trans h.1.2.1, CPl_fr h.1.2.2.1 hn f (fun x j g1 g2 _ => hq x j (by omega)), hS⟩, CRl_fr h.2 f (hq _ _ (by omega)) (fun j => hq _ _ (by omega)) (fun j => hq _ _ (by omega))⟩
theorem CM_q {s' : sg} (h : CM s p P n D mv nr q b S) (hn : n ≤ 8) (hna : S.2.2.1.1 ≤ 40) (f : Fr cQ s s') : CM s' p P n D mv nr q b S := ⟨CR2_fr h.1 hn f, ScC_fr h.2 hna f (fun x j g1 g2 g => by unfold cQ at g; omega)⟩
theorem CM_st {s' : sg} {st' : Nat → Int32} {K' : Nat → Bool} (h : CM s p P n D mv nr q b S) (hn : n ≤ 8) (hna : S.2.2.1.1 ≤ 40) (f : Fr (stD 38) s s') (hS : SAt s' 38 st' K') : CM s' p P n D mv nr q b (st', K', S.2.2) := by
  obtain ⟨h1, h2, h3, h4, h5⟩ := h.2
  have no : ∀ x j, x < 38 ∨ 41 < x → ¬ stD 38 x j := fun x j hx g => by unfold stD at g; omega
  exact ⟨CR2_g h.1 hn f (fun x j g => no x j (by omega)) hS, Pm_fr h1 f (fun j => no _ j (by omega)), hS, HsC_fr h3 h1 hna f (fun j => no _ j (by omega)) (no _ _ (by omega)) (fun x j g1 g2 => no x j (by omega)), SnC_fr h4 f (no _ _ (by omega)) (fun x j g1 g2 => no x j (by omega)), fun j hj => (f.1 _ _ (no _ _ (by omega))).trans (h5 j hj)⟩
theorem c_keepS (hN1 : 1000 ≤ N) (h : CM s p P n D mv nr q b S) (hn : n ≤ 8) (Z : WS n D S) : ∃ s', fX5_keepAct N 37 (mk s) = some (.inl (), mk s') ∧ CM s' p P n D mv nr q b (kpS S S.1 S.2.1) ∧ Fr (kD 37) s s' := by
  obtain ⟨h1, h2, h3, h4, h5⟩ := h.2
  obtain ⟨s', a1, a2, a3, a4⟩ := c_keep (N := N) hN1 (Or.inl rfl) h1 Z.2.1 h3 h2 Z.1.2.2.2
  have no : ∀ x j, x < 37 ∨ (37 < x ∧ x ≤ 41) ∨ (43 ≤ x ∧ x ≤ 46) → ¬ kD 37 x j := fun x j hx g => by unfold kD at g; omega
  have n6 : ¬ kD 37 37 6 := fun g => by unfold kD at g; omega
  have hS := SAt_fr h2 a4 (fun x j g1 g2 => no x j (by omega))
  exact ⟨s', a1, ⟨CR2_g h.1 hn a4 (fun x j g => no x j (by omega)) hS, a2, hS, a3, SnC_fr h4 a4 n6 (fun x j g1 g2 => no x j (by omega)), fun j hj => (a4.1 _ _ (no _ _ (by omega))).trans (h5 j hj)⟩, a4⟩
theorem kD_cM {x j : Nat} (h : kD 37 x j) : cM x j := by unfold kD at h; unfold cM; omega
theorem st_cM {x j : Nat} (h : stD 38 x j) : cM x j := by unfold stD at h; unfold cM; omega
theorem cQ_cM {x j : Nat} (h : cQ x j) : cM x j := Or.inl h
theorem c_rfS {x : Int32} (h : CM s p P n D mv nr q b S) (hn : n ≤ 8) (hna : S.2.2.1.1 ≤ 40) (hw : w < 3) (hx : x = S.2.2.2.2 w + 1) : CM (sI s 46 w x) p P n D mv nr q b (rfS S w) ∧ Fr cM s (sI s 46 w x) := by
  have f : Fr (fun y j => y = 46 ∧ j = w) s (sI s 46 w x) := Fr_sI ⟨rfl, rfl⟩
  obtain ⟨h1, h2, h3, h4, h5⟩ := h.2
  have hS := SAt_fr h2 f (fun x j g1 g2 => by omega)
  refine ⟨⟨CR2_g h.1 hn f (fun x j g => by omega) hS, Pm_fr h1 f (fun j => by omega), hS, HsC_fr h3 h1 hna f (fun j => by omega) (by omega) (fun x j g1 g2 => by omega), SnC_fr h4 f (by omega) (fun x j g1 g2 => by omega), fun j hj => ?_⟩, Fr_sI (by unfold cM; omega)⟩
  show (sI s 46 w x).1 46 j = if j = w then S.2.2.2.2 w + 1 else S.2.2.2.2 j
  rw [sI_1]
  by_cases e : j = w
  · rw [if_pos ⟨rfl, e⟩, if_pos e]; exact hx
  · rw [if_neg (fun g => e g.2), if_neg e]; exact h5 j hj
theorem c_refuse (h : CM s p P n D mv nr q b S) (hn : n ≤ 8) (hna : S.2.2.1.1 ≤ 40) : ∃ s', fX11_refuseAct N 0 (mk s) = some (.inl (-1), mk s') ∧ CM s' p P n D mv nr q b (rfS S 1) ∧ Fr cM s s' := by
  obtain ⟨a1, a2⟩ := c_rfS (w := 1) (x := s.1 46 1 + 1) h hn hna (by omega) (by rw [h.2.2.2.2.2 1 (by omega)])
  refine ⟨_, ?_, a1, a2⟩
  unfold fX11_refuseAct bX11_refuseAct_0
  simp (decide := true) only [ob_s, cS_l, cS_r, gI_k, gR_k, pI_k, pR_k, cV_k, aI_k, tI_k, rZ_0, rZ_1, rZ_i, aR_24, aR_25, aZ_k, tZ_k, rf_3_6, rf_3_7, rf_3_8, rf_5_0, rf_5_1, rf_5_3, rf_5_4, rf_5_5, rf_5_7, rf_6_4, rf_6_11, rf_1_0, rf_1_1, rf_0_6, rf_9_7, rf_9_8, rf_8_0, rf_11_0, rf_11_5, rf_11_6, rf_11_7, rf_11_9, rf_11_10, rf_11_11, rf_11_12, rf_11_3, rf_11_4, Nat.reduceAdd, Nat.zero_add, kc_0, kc_1, kc_34, kc_35, kc_36, kc_37, kc_38, kc_39, kc_40, kc_41, kc_42, kc_43, kc_44, kc_45, kc_46, kc_207, kc_208, kc_209, kc_210, kc_211, kc_212, kc_213, kc_214, kc_215, kc_216, kc_377, kc_378, kc_379, kc_380, kc_381, kc_382, kc_383, kc_384, kc_385, kc_386, kc_387, kc_388, kc_389, kc_390, kc_391, kc_392, kc_393, kc_394, kc_395, kc_414, kc_415, kc_416, kc_417, kc_418, kn_1, kn_36, kn_39, kn_41, kn_42, kn_43, kn_44, kn_45, kn_46, kn_209, kn_211, kn_212, kn_213, kn_214, kn_215, kn_216, kn_378, kn_380, kn_382, kn_383, kn_385, kn_386, kn_388, kn_390, kn_392, kn_393, kn_395, kn_414, kn_415, kn_417, kn_418]
  rfl
theorem c_take (hN1 : 1000 ≤ N) (W : Wp P n D mv) (Z : WS n D S) (h : CM s p P n D mv nr q b S) (hk : k < n) : ∃ s', fX11_take N 0 (nI k) (mk s) = some (.inl (pTake P D S k).1, mk s') ∧ CM s' p P n D mv nr q b (pTake P D S k).2 ∧ Fr cM s s' := by
  have hn8 := W.1
  have hD := W.2.2.2.1
  obtain ⟨⟨h0, h0'⟩, _⟩ := Ws_n Z.1 W.1 W.2.2.2.1
  obtain ⟨s1, a1, a2, a3⟩ := c_look (N := N) hN1 h.1.1 hD
  have f1 : Fr cQ s s1 := Fr_m a3 (fun x j => oD_cQ)
  have hm1 := CM_q h hn8 Z.2.1 f1
  have hpO := plA_O h.1.1.1
  have hp2 := plA_le h.1.1.1
  have e0 : s1.1 38 0 = nI (nowN S.1) := hm1.1.1.2.2.2.1.trans h0
  have eD : s1.1 p 0 = nI D := hm1.1.1.2.2.1.1
  unfold fX11_take bX11_take_0
  simp (decide := true) only [ob_s, cS_l, cS_r, gI_k, gR_k, pI_k, pR_k, cV_k, aI_k, tI_k, rZ_0, rZ_1, rZ_i, aR_24, aR_25, aZ_k, tZ_k, rf_3_6, rf_3_7, rf_3_8, rf_5_0, rf_5_1, rf_5_3, rf_5_4, rf_5_5, rf_5_7, rf_6_4, rf_6_11, rf_1_0, rf_1_1, rf_0_6, rf_9_7, rf_9_8, rf_8_0, rf_11_0, rf_11_5, rf_11_6, rf_11_7, rf_11_9, rf_11_10, rf_11_11, rf_11_12, rf_11_3, rf_11_4, Nat.reduceAdd, Nat.zero_add, kc_0, kc_1, kc_34, kc_35, kc_36, kc_37, kc_38, kc_39, kc_40, kc_41, kc_42, kc_43, kc_44, kc_45, kc_46, kc_207, kc_208, kc_209, kc_210, kc_211, kc_212, kc_213, kc_214, kc_215, kc_216, kc_377, kc_378, kc_379, kc_380, kc_381, kc_382, kc_383, kc_384, kc_385, kc_386, kc_387, kc_388, kc_389, kc_390, kc_391, kc_392, kc_393, kc_394, kc_395, kc_414, kc_415, kc_416, kc_417, kc_418, kn_1, kn_36, kn_39, kn_41, kn_42, kn_43, kn_44, kn_45, kn_46, kn_209, kn_211, kn_212, kn_213, kn_214, kn_215, kn_216, kn_378, kn_380, kn_382, kn_383, kn_385, kn_386, kn_388, kn_390, kn_392, kn_393, kn_395, kn_414, kn_415, kn_417, kn_418, c_reqShot h.1.1 hk hn8, a1, e0, hm1.1.1.2.1, hpO.1, eD]
  unfold bX11_take_46
  obtain ⟨s9, r1, r2, r3⟩ := c_refuse (N := N) hm1 hn8 Z.2.1
  unfold pTake
  by_cases c : D ≤ nowN S.1
  · rw [if_pos (nI_le c (by omega)), if_neg (by omega)]
    simp (decide := true) only [ob_s, cS_l, cS_r, gI_k, gR_k, pI_k, pR_k, cV_k, aI_k, tI_k, rZ_0, rZ_1, rZ_i, aR_24, aR_25, aZ_k, tZ_k, rf_3_6, rf_3_7, rf_3_8, rf_5_0, rf_5_1, rf_5_3, rf_5_4, rf_5_5, rf_5_7, rf_6_4, rf_6_11, rf_1_0, rf_1_1, rf_0_6, rf_9_7, rf_9_8, rf_8_0, rf_11_0, rf_11_5, rf_11_6, rf_11_7, rf_11_9, rf_11_10, rf_11_11, rf_11_12, rf_11_3, rf_11_4, Nat.reduceAdd, Nat.zero_add, kc_0, kc_1, kc_34, kc_35, kc_36, kc_37, kc_38, kc_39, kc_40, kc_41, kc_42, kc_43, kc_44, kc_45, kc_46, kc_207, kc_208, kc_209, kc_210, kc_211, kc_212, kc_213, kc_214, kc_215, kc_216, kc_377, kc_378, kc_379, kc_380, kc_381, kc_382, kc_383, kc_384, kc_385, kc_386, kc_387, kc_388, kc_389, kc_390, kc_391, kc_392, kc_393, kc_394, kc_395, kc_414, kc_415, kc_416, kc_417, kc_418, kn_1, kn_36, kn_39, kn_41, kn_42, kn_43, kn_44, kn_45, kn_46, kn_209, kn_211, kn_212, kn_213, kn_214, kn_215, kn_216, kn_378, kn_380, kn_382, kn_383, kn_385, kn_386, kn_388, kn_390, kn_392, kn_393, kn_395, kn_414, kn_415, kn_417, kn_418, r1]
    exact ⟨s9, rfl, r2, Fr_t (Fr_m f1 (fun x j => cQ_cM)) r3⟩
  · rw [if_neg (nI_ge (by omega) (by omega))]
    have hh := c_hind (N := N) (k := k) (m := nowN S.1) oo_381 (stA_O (Or.inl rfl)) hpO a2 hm1.1.1.2.2.2 Z.1.2.2.2 Z.1.2.1 (by omega) (hm1.1.1.2.2.1.2.2.2 k hk) (W.2.2.2.2.2.2.2 k hk).1 (by omega) hD
    simp (decide := true) only [ob_s, cS_l, cS_r, gI_k, gR_k, pI_k, pR_k, cV_k, aI_k, tI_k, rZ_0, rZ_1, rZ_i, aR_24, aR_25, aZ_k, tZ_k, rf_3_6, rf_3_7, rf_3_8, rf_5_0, rf_5_1, rf_5_3, rf_5_4, rf_5_5, rf_5_7, rf_6_4, rf_6_11, rf_1_0, rf_1_1, rf_0_6, rf_9_7, rf_9_8, rf_8_0, rf_11_0, rf_11_5, rf_11_6, rf_11_7, rf_11_9, rf_11_10, rf_11_11, rf_11_12, rf_11_3, rf_11_4, Nat.reduceAdd, Nat.zero_add, kc_0, kc_1, kc_34, kc_35, kc_36, kc_37, kc_38, kc_39, kc_40, kc_41, kc_42, kc_43, kc_44, kc_45, kc_46, kc_207, kc_208, kc_209, kc_210, kc_211, kc_212, kc_213, kc_214, kc_215, kc_216, kc_377, kc_378, kc_379, kc_380, kc_381, kc_382, kc_383, kc_384, kc_385, kc_386, kc_387, kc_388, kc_389, kc_390, kc_391, kc_392, kc_393, kc_394, kc_395, kc_414, kc_415, kc_416, kc_417, kc_418, kn_1, kn_36, kn_39, kn_41, kn_42, kn_43, kn_44, kn_45, kn_46, kn_209, kn_211, kn_212, kn_213, kn_214, kn_215, kn_216, kn_378, kn_380, kn_382, kn_383, kn_385, kn_386, kn_388, kn_390, kn_392, kn_393, kn_395, kn_414, kn_415, kn_417, kn_418, hh]
    by_cases c2 : sWhy P S.1 S.2.1 D k (nowN S.1) = 0
    · rw [if_pos c2, if_pos ⟨by omega, c2⟩]
      have hle := (why0 W hk (show nowN S.1 < D by omega) c2).1
      obtain ⟨s2, b1, b2, b3⟩ := c_keepS (N := N) hN1 hm1 hn8 Z
      have hO2 := OLk_fr a2 b3 (fun x j g1 g2 g => by unfold kD at g; omega)
      obtain ⟨s3, d1, d2, d3⟩ := c_shoots (N := N) (st := S.1) (K := S.2.1) (k := k) (m := nowN S.1) oo_381 (stA_O (Or.inl rfl)) (by omega) hpO hO2 b2.1.1.2.2.2 Z.1.2.2.2 (by omega) (b2.1.1.2.2.1.2.2.2 k hk) (W.2.2.2.2.2.2.2 k hk).1 (W.2.2.2.2.2.2.2 k hk).2.1 h0 hle hD
      simp (decide := true) only [ob_s, cS_l, cS_r, gI_k, gR_k, pI_k, pR_k, cV_k, aI_k, tI_k, rZ_0, rZ_1, rZ_i, aR_24, aR_25, aZ_k, tZ_k, rf_3_6, rf_3_7, rf_3_8, rf_5_0, rf_5_1, rf_5_3, rf_5_4, rf_5_5, rf_5_7, rf_6_4, rf_6_11, rf_1_0, rf_1_1, rf_0_6, rf_9_7, rf_9_8, rf_8_0, rf_11_0, rf_11_5, rf_11_6, rf_11_7, rf_11_9, rf_11_10, rf_11_11, rf_11_12, rf_11_3, rf_11_4, Nat.reduceAdd, Nat.zero_add, kc_0, kc_1, kc_34, kc_35, kc_36, kc_37, kc_38, kc_39, kc_40, kc_41, kc_42, kc_43, kc_44, kc_45, kc_46, kc_207, kc_208, kc_209, kc_210, kc_211, kc_212, kc_213, kc_214, kc_215, kc_216, kc_377, kc_378, kc_379, kc_380, kc_381, kc_382, kc_383, kc_384, kc_385, kc_386, kc_387, kc_388, kc_389, kc_390, kc_391, kc_392, kc_393, kc_394, kc_395, kc_414, kc_415, kc_416, kc_417, kc_418, kn_1, kn_36, kn_39, kn_41, kn_42, kn_43, kn_44, kn_45, kn_46, kn_209, kn_211, kn_212, kn_213, kn_214, kn_215, kn_216, kn_378, kn_380, kn_382, kn_383, kn_385, kn_386, kn_388, kn_390, kn_392, kn_393, kn_395, kn_414, kn_415, kn_417, kn_418, b1, d1, sk_0]
      have hna2 : (kpS S S.1 S.2.1).2.2.1.1 ≤ 40 := (WS_kp S.2.1 Z Z.1).2.1
      refine ⟨s3, ?_, CM_st b2 hn8 hna2 d3 d2, Fr_t (Fr_t (Fr_m f1 (fun x j => cQ_cM)) (Fr_m b3 (fun x j => kD_cM))) (Fr_m d3 (fun x j => st_cM))⟩
      cases sEn P S.1 S.2.1 D k (nowN S.1) (ln P k)
      · rw [if_pos rfl]; rfl
      · rw [if_neg (by decide)]; rfl
    · rw [if_neg c2, if_neg (fun g => c2 g.2)]
      simp (decide := true) only [ob_s, cS_l, cS_r, gI_k, gR_k, pI_k, pR_k, cV_k, aI_k, tI_k, rZ_0, rZ_1, rZ_i, aR_24, aR_25, aZ_k, tZ_k, rf_3_6, rf_3_7, rf_3_8, rf_5_0, rf_5_1, rf_5_3, rf_5_4, rf_5_5, rf_5_7, rf_6_4, rf_6_11, rf_1_0, rf_1_1, rf_0_6, rf_9_7, rf_9_8, rf_8_0, rf_11_0, rf_11_5, rf_11_6, rf_11_7, rf_11_9, rf_11_10, rf_11_11, rf_11_12, rf_11_3, rf_11_4, Nat.reduceAdd, Nat.zero_add, kc_0, kc_1, kc_34, kc_35, kc_36, kc_37, kc_38, kc_39, kc_40, kc_41, kc_42, kc_43, kc_44, kc_45, kc_46, kc_207, kc_208, kc_209, kc_210, kc_211, kc_212, kc_213, kc_214, kc_215, kc_216, kc_377, kc_378, kc_379, kc_380, kc_381, kc_382, kc_383, kc_384, kc_385, kc_386, kc_387, kc_388, kc_389, kc_390, kc_391, kc_392, kc_393, kc_394, kc_395, kc_414, kc_415, kc_416, kc_417, kc_418, kn_1, kn_36, kn_39, kn_41, kn_42, kn_43, kn_44, kn_45, kn_46, kn_209, kn_211, kn_212, kn_213, kn_214, kn_215, kn_216, kn_378, kn_380, kn_382, kn_383, kn_385, kn_386, kn_388, kn_390, kn_392, kn_393, kn_395, kn_414, kn_415, kn_417, kn_418, r1]
      exact ⟨s9, rfl, r2, Fr_t (Fr_m f1 (fun x j => cQ_cM)) r3⟩
theorem c_await {x : Int32} (hN1 : 1000 ≤ N) (W : Wp P n D mv) (Z : WS n D S) (h : CM s p P n D mv nr q b S) : ∃ s', fX11_await N 0 x (mk s) = some (.inl (pAwait D S x).1, mk s') ∧ CM s' p P n D mv nr q b (pAwait D S x).2 ∧ Fr cM s s' := by
  have hn8 := W.1
  have hpO := plA_O h.1.1.1
  obtain ⟨s9, r1, r2, r3⟩ := c_refuse (N := N) h hn8 Z.2.1
  have rf : ∃ s', bX11_await_35 N 0 (mk s) = some (.inl (-1), mk s') ∧ CM s' p P n D mv nr q b (rfS S 1) ∧ Fr cM s s' := by
    refine ⟨s9, ?_, r2, r3⟩
    unfold bX11_await_35
    simp (decide := true) only [ob_s, cS_l, cS_r, gI_k, gR_k, pI_k, pR_k, cV_k, aI_k, tI_k, rZ_0, rZ_1, rZ_i, aR_24, aR_25, aZ_k, tZ_k, rf_3_6, rf_3_7, rf_3_8, rf_5_0, rf_5_1, rf_5_3, rf_5_4, rf_5_5, rf_5_7, rf_6_4, rf_6_11, rf_1_0, rf_1_1, rf_0_6, rf_9_7, rf_9_8, rf_8_0, rf_11_0, rf_11_5, rf_11_6, rf_11_7, rf_11_9, rf_11_10, rf_11_11, rf_11_12, rf_11_3, rf_11_4, Nat.reduceAdd, Nat.zero_add, kc_0, kc_1, kc_34, kc_35, kc_36, kc_37, kc_38, kc_39, kc_40, kc_41, kc_42, kc_43, kc_44, kc_45, kc_46, kc_207, kc_208, kc_209, kc_210, kc_211, kc_212, kc_213, kc_214, kc_215, kc_216, kc_377, kc_378, kc_379, kc_380, kc_381, kc_382, kc_383, kc_384, kc_385, kc_386, kc_387, kc_388, kc_389, kc_390, kc_391, kc_392, kc_393, kc_394, kc_395, kc_414, kc_415, kc_416, kc_417, kc_418, kn_1, kn_36, kn_39, kn_41, kn_42, kn_43, kn_44, kn_45, kn_46, kn_209, kn_211, kn_212, kn_213, kn_214, kn_215, kn_216, kn_378, kn_380, kn_382, kn_383, kn_385, kn_386, kn_388, kn_390, kn_392, kn_393, kn_395, kn_414, kn_415, kn_417, kn_418, r1]
  have e0 : s.1 38 0 = S.1 0 := h.1.1.2.2.2.1
  have eD : s.1 p 0 = nI D := h.1.1.2.2.1.1
  unfold fX11_await bX11_await_0
  simp (decide := true) only [ob_s, cS_l, cS_r, gI_k, gR_k, pI_k, pR_k, cV_k, aI_k, tI_k, rZ_0, rZ_1, rZ_i, aR_24, aR_25, aZ_k, tZ_k, rf_3_6, rf_3_7, rf_3_8, rf_5_0, rf_5_1, rf_5_3, rf_5_4, rf_5_5, rf_5_7, rf_6_4, rf_6_11, rf_1_0, rf_1_1, rf_0_6, rf_9_7, rf_9_8, rf_8_0, rf_11_0, rf_11_5, rf_11_6, rf_11_7, rf_11_9, rf_11_10, rf_11_11, rf_11_12, rf_11_3, rf_11_4, Nat.reduceAdd, Nat.zero_add, kc_0, kc_1, kc_34, kc_35, kc_36, kc_37, kc_38, kc_39, kc_40, kc_41, kc_42, kc_43, kc_44, kc_45, kc_46, kc_207, kc_208, kc_209, kc_210, kc_211, kc_212, kc_213, kc_214, kc_215, kc_216, kc_377, kc_378, kc_379, kc_380, kc_381, kc_382, kc_383, kc_384, kc_385, kc_386, kc_387, kc_388, kc_389, kc_390, kc_391, kc_392, kc_393, kc_394, kc_395, kc_414, kc_415, kc_416, kc_417, kc_418, kn_1, kn_36, kn_39, kn_41, kn_42, kn_43, kn_44, kn_45, kn_46, kn_209, kn_211, kn_212, kn_213, kn_214, kn_215, kn_216, kn_378, kn_380, kn_382, kn_383, kn_385, kn_386, kn_388, kn_390, kn_392, kn_393, kn_395, kn_414, kn_415, kn_417, kn_418, e0, h.1.1.2.1, hpO.1, eD]
  unfold pAwait
  by_cases c1 : x < 1
  · rw [if_pos c1, if_neg (fun g => g.1 c1)]; exact rf
  · rw [if_neg c1]
    by_cases c2 : 60 < x
    · rw [if_pos c2, if_neg (fun g => g.2.1 c2)]; exact rf
    · rw [if_neg c2]
      by_cases c3 : S.1 0 + x ≤ nI D
      · rw [if_pos c3, if_pos ⟨c1, c2, c3⟩]
        obtain ⟨s2, b1, b2, b3⟩ := c_keepS (N := N) hN1 h hn8 Z
        obtain ⟨s3, d1, d2, d3⟩ := c_waits (N := N) (n := x) (stA_O (Or.inl rfl)) b2.1.1.2.2.2
        have e3 : s3.1 38 0 = S.1 0 + x := d2.1
        simp (decide := true) only [ob_s, cS_l, cS_r, gI_k, gR_k, pI_k, pR_k, cV_k, aI_k, tI_k, rZ_0, rZ_1, rZ_i, aR_24, aR_25, aZ_k, tZ_k, rf_3_6, rf_3_7, rf_3_8, rf_5_0, rf_5_1, rf_5_3, rf_5_4, rf_5_5, rf_5_7, rf_6_4, rf_6_11, rf_1_0, rf_1_1, rf_0_6, rf_9_7, rf_9_8, rf_8_0, rf_11_0, rf_11_5, rf_11_6, rf_11_7, rf_11_9, rf_11_10, rf_11_11, rf_11_12, rf_11_3, rf_11_4, Nat.reduceAdd, Nat.zero_add, kc_0, kc_1, kc_34, kc_35, kc_36, kc_37, kc_38, kc_39, kc_40, kc_41, kc_42, kc_43, kc_44, kc_45, kc_46, kc_207, kc_208, kc_209, kc_210, kc_211, kc_212, kc_213, kc_214, kc_215, kc_216, kc_377, kc_378, kc_379, kc_380, kc_381, kc_382, kc_383, kc_384, kc_385, kc_386, kc_387, kc_388, kc_389, kc_390, kc_391, kc_392, kc_393, kc_394, kc_395, kc_414, kc_415, kc_416, kc_417, kc_418, kn_1, kn_36, kn_39, kn_41, kn_42, kn_43, kn_44, kn_45, kn_46, kn_209, kn_211, kn_212, kn_213, kn_214, kn_215, kn_216, kn_378, kn_380, kn_382, kn_383, kn_385, kn_386, kn_388, kn_390, kn_392, kn_393, kn_395, kn_414, kn_415, kn_417, kn_418, b1, d1, e3]
        exact ⟨s3, rfl, CM_st b2 hn8 (WS_kp S.2.1 Z Z.1).2.1 d3 d2, Fr_t (Fr_m b3 (fun x j => kD_cM)) (Fr_m d3 (fun x j => st_cM))⟩
      · rw [if_neg c3, if_neg (fun g => c3 g.2.2)]; exact rf
theorem c_move (hN1 : 1000 ≤ N) (W : Wp P n D mv) (Z : WS n D S) (h : CM s p P n D mv nr q b S) : ∃ s', fX11_move N 0 (sk_i on) (mk s) = some (.inl (pMove D mv S on).1, mk s') ∧ CM s' p P n D mv nr q b (pMove D mv S on).2 ∧ Fr cM s s' := by
  have hn8 := W.1
  have hpO := plA_O h.1.1.1
  obtain ⟨s9, r1, r2, r3⟩ := c_refuse (N := N) h hn8 Z.2.1
  have rf : ∃ s', bX11_move_48 N 0 (mk s) = some (.inl (-1), mk s') ∧ CM s' p P n D mv nr q b (rfS S 1) ∧ Fr cM s s' := by
    refine ⟨s9, ?_, r2, r3⟩
    unfold bX11_move_48
    simp (decide := true) only [ob_s, cS_l, cS_r, gI_k, gR_k, pI_k, pR_k, cV_k, aI_k, tI_k, rZ_0, rZ_1, rZ_i, aR_24, aR_25, aZ_k, tZ_k, rf_3_6, rf_3_7, rf_3_8, rf_5_0, rf_5_1, rf_5_3, rf_5_4, rf_5_5, rf_5_7, rf_6_4, rf_6_11, rf_1_0, rf_1_1, rf_0_6, rf_9_7, rf_9_8, rf_8_0, rf_11_0, rf_11_5, rf_11_6, rf_11_7, rf_11_9, rf_11_10, rf_11_11, rf_11_12, rf_11_3, rf_11_4, Nat.reduceAdd, Nat.zero_add, kc_0, kc_1, kc_34, kc_35, kc_36, kc_37, kc_38, kc_39, kc_40, kc_41, kc_42, kc_43, kc_44, kc_45, kc_46, kc_207, kc_208, kc_209, kc_210, kc_211, kc_212, kc_213, kc_214, kc_215, kc_216, kc_377, kc_378, kc_379, kc_380, kc_381, kc_382, kc_383, kc_384, kc_385, kc_386, kc_387, kc_388, kc_389, kc_390, kc_391, kc_392, kc_393, kc_394, kc_395, kc_414, kc_415, kc_416, kc_417, kc_418, kn_1, kn_36, kn_39, kn_41, kn_42, kn_43, kn_44, kn_45, kn_46, kn_209, kn_211, kn_212, kn_213, kn_214, kn_215, kn_216, kn_378, kn_380, kn_382, kn_383, kn_385, kn_386, kn_388, kn_390, kn_392, kn_393, kn_395, kn_414, kn_415, kn_417, kn_418, r1]
  have e0 : s.1 38 0 = S.1 0 := h.1.1.2.2.2.1
  have e1 : s.1 38 1 = S.1 1 := h.1.1.2.2.2.2.1
  have eD : s.1 p 0 = nI D := h.1.1.2.2.1.1
  have eM : s.1 p 1 = nI mv := h.1.1.2.2.1.2.1
  have key : ∃ s', bX11_move_17 N 0 38 (sk_i on) (mk s) = some (.inl (pMove D mv S on).1, mk s') ∧ CM s' p P n D mv nr q b (pMove D mv S on).2 ∧ Fr cM s s' := by
    unfold bX11_move_17 pMove
    simp (decide := true) only [ob_s, cS_l, cS_r, gI_k, gR_k, pI_k, pR_k, cV_k, aI_k, tI_k, rZ_0, rZ_1, rZ_i, aR_24, aR_25, aZ_k, tZ_k, rf_3_6, rf_3_7, rf_3_8, rf_5_0, rf_5_1, rf_5_3, rf_5_4, rf_5_5, rf_5_7, rf_6_4, rf_6_11, rf_1_0, rf_1_1, rf_0_6, rf_9_7, rf_9_8, rf_8_0, rf_11_0, rf_11_5, rf_11_6, rf_11_7, rf_11_9, rf_11_10, rf_11_11, rf_11_12, rf_11_3, rf_11_4, Nat.reduceAdd, Nat.zero_add, kc_0, kc_1, kc_34, kc_35, kc_36, kc_37, kc_38, kc_39, kc_40, kc_41, kc_42, kc_43, kc_44, kc_45, kc_46, kc_207, kc_208, kc_209, kc_210, kc_211, kc_212, kc_213, kc_214, kc_215, kc_216, kc_377, kc_378, kc_379, kc_380, kc_381, kc_382, kc_383, kc_384, kc_385, kc_386, kc_387, kc_388, kc_389, kc_390, kc_391, kc_392, kc_393, kc_394, kc_395, kc_414, kc_415, kc_416, kc_417, kc_418, kn_1, kn_36, kn_39, kn_41, kn_42, kn_43, kn_44, kn_45, kn_46, kn_209, kn_211, kn_212, kn_213, kn_214, kn_215, kn_216, kn_378, kn_380, kn_382, kn_383, kn_385, kn_386, kn_388, kn_390, kn_392, kn_393, kn_395, kn_414, kn_415, kn_417, kn_418, e0, e1, h.1.1.2.1, hpO.1, eD, eM]
    by_cases c1 : S.1 1 = sk_i on
    · rw [if_pos c1, if_neg (fun g => g.1 c1)]; exact rf
    · rw [if_neg c1]
      by_cases c3 : S.1 0 + nI mv ≤ nI D
      · rw [if_pos c3, if_pos ⟨c1, c3⟩]
        obtain ⟨s2, b1, b2, b3⟩ := c_keepS (N := N) hN1 h hn8 Z
        obtain ⟨s3, d1, d2, d3⟩ := c_goesOver (N := N) (n := nI mv) (stA_O (Or.inl rfl)) b2.1.1.2.2.2 Z.1.2.1
        have e3 : s3.1 38 0 = S.1 0 + nI mv := d2.1
        simp (decide := true) only [ob_s, cS_l, cS_r, gI_k, gR_k, pI_k, pR_k, cV_k, aI_k, tI_k, rZ_0, rZ_1, rZ_i, aR_24, aR_25, aZ_k, tZ_k, rf_3_6, rf_3_7, rf_3_8, rf_5_0, rf_5_1, rf_5_3, rf_5_4, rf_5_5, rf_5_7, rf_6_4, rf_6_11, rf_1_0, rf_1_1, rf_0_6, rf_9_7, rf_9_8, rf_8_0, rf_11_0, rf_11_5, rf_11_6, rf_11_7, rf_11_9, rf_11_10, rf_11_11, rf_11_12, rf_11_3, rf_11_4, Nat.reduceAdd, Nat.zero_add, kc_0, kc_1, kc_34, kc_35, kc_36, kc_37, kc_38, kc_39, kc_40, kc_41, kc_42, kc_43, kc_44, kc_45, kc_46, kc_207, kc_208, kc_209, kc_210, kc_211, kc_212, kc_213, kc_214, kc_215, kc_216, kc_377, kc_378, kc_379, kc_380, kc_381, kc_382, kc_383, kc_384, kc_385, kc_386, kc_387, kc_388, kc_389, kc_390, kc_391, kc_392, kc_393, kc_394, kc_395, kc_414, kc_415, kc_416, kc_417, kc_418, kn_1, kn_36, kn_39, kn_41, kn_42, kn_43, kn_44, kn_45, kn_46, kn_209, kn_211, kn_212, kn_213, kn_214, kn_215, kn_216, kn_378, kn_380, kn_382, kn_383, kn_385, kn_386, kn_388, kn_390, kn_392, kn_393, kn_395, kn_414, kn_415, kn_417, kn_418, b1, b2.1.1.2.1, hpO.1, b2.1.1.2.2.1.2.1, d1, e3]
        exact ⟨s3, rfl, CM_st b2 hn8 (WS_kp S.2.1 Z Z.1).2.1 d3 d2, Fr_t (Fr_m b3 (fun x j => kD_cM)) (Fr_m d3 (fun x j => st_cM))⟩
      · rw [if_neg c3, if_neg (fun g => c3 g.2)]; exact rf
  unfold fX11_move bX11_move_0
  simp (decide := true) only [ob_s, cS_l, cS_r, gI_k, gR_k, pI_k, pR_k, cV_k, aI_k, tI_k, rZ_0, rZ_1, rZ_i, aR_24, aR_25, aZ_k, tZ_k, rf_3_6, rf_3_7, rf_3_8, rf_5_0, rf_5_1, rf_5_3, rf_5_4, rf_5_5, rf_5_7, rf_6_4, rf_6_11, rf_1_0, rf_1_1, rf_0_6, rf_9_7, rf_9_8, rf_8_0, rf_11_0, rf_11_5, rf_11_6, rf_11_7, rf_11_9, rf_11_10, rf_11_11, rf_11_12, rf_11_3, rf_11_4, Nat.reduceAdd, Nat.zero_add, kc_0, kc_1, kc_34, kc_35, kc_36, kc_37, kc_38, kc_39, kc_40, kc_41, kc_42, kc_43, kc_44, kc_45, kc_46, kc_207, kc_208, kc_209, kc_210, kc_211, kc_212, kc_213, kc_214, kc_215, kc_216, kc_377, kc_378, kc_379, kc_380, kc_381, kc_382, kc_383, kc_384, kc_385, kc_386, kc_387, kc_388, kc_389, kc_390, kc_391, kc_392, kc_393, kc_394, kc_395, kc_414, kc_415, kc_416, kc_417, kc_418, kn_1, kn_36, kn_39, kn_41, kn_42, kn_43, kn_44, kn_45, kn_46, kn_209, kn_211, kn_212, kn_213, kn_214, kn_215, kn_216, kn_378, kn_380, kn_382, kn_383, kn_385, kn_386, kn_388, kn_390, kn_392, kn_393, kn_395, kn_414, kn_415, kn_417, kn_418, sk_0]
  cases on
  · rw [if_pos rfl]; exact key
  · rw [if_neg (by decide)]; exact key
theorem c_sets (hN1 : 1000 ≤ N) (W : Wp P n D mv) (Z : WS n D S) (h : CM s p P n D mv nr q b S) (hw : w ≤ 1) : ∃ s', fX11_sets N 0 (nI w) (sk_i on) (mk s) = some (.inl (pSets S w on).1, mk s') ∧ CM s' p P n D mv nr q b (pSets S w on).2 ∧ Fr cM s s' := by
  have hn8 := W.1
  have hq := c_reqWhat (N := N) (s := s) (l := 1) hw (by omega)
  rw [show nI 1 = (1 : Int32) from rfl] at hq
  have e5 : s.1 38 5 = S.1 5 := h.1.1.2.2.2.2.2.2.2.2.1
  have e6 : s.1 38 6 = S.1 6 := h.1.1.2.2.2.2.2.2.2.2.2.1
  obtain ⟨s2, b1, b2, b3⟩ := c_keepS (N := N) hN1 h hn8 Z
  obtain ⟨s3, d1, d2, d3⟩ := c_putOn (N := N) (w := w) (on := on) (stA_O (Or.inl rfl)) b2.1.1.2.2.2 (by omega)
  have key : ∀ y : Int32, y = 0 ∨ y = 1 → bX11_sets_28 N 0 (nI w) (sk_i on) 38 y (mk s) = some (.inl y, mk s3) := fun y hy => by
    unfold bX11_sets_28
    simp (decide := true) only [ob_s, cS_l, cS_r, gI_k, gR_k, pI_k, pR_k, cV_k, aI_k, tI_k, rZ_0, rZ_1, rZ_i, aR_24, aR_25, aZ_k, tZ_k, rf_3_6, rf_3_7, rf_3_8, rf_5_0, rf_5_1, rf_5_3, rf_5_4, rf_5_5, rf_5_7, rf_6_4, rf_6_11, rf_1_0, rf_1_1, rf_0_6, rf_9_7, rf_9_8, rf_8_0, rf_11_0, rf_11_5, rf_11_6, rf_11_7, rf_11_9, rf_11_10, rf_11_11, rf_11_12, rf_11_3, rf_11_4, Nat.reduceAdd, Nat.zero_add, kc_0, kc_1, kc_34, kc_35, kc_36, kc_37, kc_38, kc_39, kc_40, kc_41, kc_42, kc_43, kc_44, kc_45, kc_46, kc_207, kc_208, kc_209, kc_210, kc_211, kc_212, kc_213, kc_214, kc_215, kc_216, kc_377, kc_378, kc_379, kc_380, kc_381, kc_382, kc_383, kc_384, kc_385, kc_386, kc_387, kc_388, kc_389, kc_390, kc_391, kc_392, kc_393, kc_394, kc_395, kc_414, kc_415, kc_416, kc_417, kc_418, kn_1, kn_36, kn_39, kn_41, kn_42, kn_43, kn_44, kn_45, kn_46, kn_209, kn_211, kn_212, kn_213, kn_214, kn_215, kn_216, kn_378, kn_380, kn_382, kn_383, kn_385, kn_386, kn_388, kn_390, kn_392, kn_393, kn_395, kn_414, kn_415, kn_417, kn_418, b1, d1]
    rcases hy with rfl | rfl <;> rfl
  refine ⟨s3, ?_, CM_st b2 hn8 (WS_kp S.2.1 Z Z.1).2.1 d3 d2, Fr_t (Fr_m b3 (fun x j => kD_cM)) (Fr_m d3 (fun x j => st_cM))⟩
  unfold fX11_sets bX11_sets_0
  simp (decide := true) only [ob_s, cS_l, cS_r, gI_k, gR_k, pI_k, pR_k, cV_k, aI_k, tI_k, rZ_0, rZ_1, rZ_i, aR_24, aR_25, aZ_k, tZ_k, rf_3_6, rf_3_7, rf_3_8, rf_5_0, rf_5_1, rf_5_3, rf_5_4, rf_5_5, rf_5_7, rf_6_4, rf_6_11, rf_1_0, rf_1_1, rf_0_6, rf_9_7, rf_9_8, rf_8_0, rf_11_0, rf_11_5, rf_11_6, rf_11_7, rf_11_9, rf_11_10, rf_11_11, rf_11_12, rf_11_3, rf_11_4, Nat.reduceAdd, Nat.zero_add, kc_0, kc_1, kc_34, kc_35, kc_36, kc_37, kc_38, kc_39, kc_40, kc_41, kc_42, kc_43, kc_44, kc_45, kc_46, kc_207, kc_208, kc_209, kc_210, kc_211, kc_212, kc_213, kc_214, kc_215, kc_216, kc_377, kc_378, kc_379, kc_380, kc_381, kc_382, kc_383, kc_384, kc_385, kc_386, kc_387, kc_388, kc_389, kc_390, kc_391, kc_392, kc_393, kc_394, kc_395, kc_414, kc_415, kc_416, kc_417, kc_418, kn_1, kn_36, kn_39, kn_41, kn_42, kn_43, kn_44, kn_45, kn_46, kn_209, kn_211, kn_212, kn_213, kn_214, kn_215, kn_216, kn_378, kn_380, kn_382, kn_383, kn_385, kn_386, kn_388, kn_390, kn_392, kn_393, kn_395, kn_414, kn_415, kn_417, kn_418, hq, e5, e6]
  rcases (show w = 0 ∨ w = 1 by omega) with rfl | rfl
  · rw [if_neg (fun g => g rfl), key _ Z.1.2.2.2.1]; rfl
  · rw [if_pos (by decide), key _ Z.1.2.2.2.2]; rfl
theorem c_sets' {x y : Int32} (hx : x < 0 ∨ (¬ x < 0 ∧ nI 2 ≤ x)) : fX11_sets N 0 x y (mk s) = some (.inr 1, mk s) := by
  have hq := c_reqWhat' (N := N) (s := s) (l := 1) hx (by omega)
  rw [show nI 1 = (1 : Int32) from rfl] at hq
  unfold fX11_sets bX11_sets_0
  simp (decide := true) only [ob_s, cS_l, cS_r, gI_k, gR_k, pI_k, pR_k, cV_k, aI_k, tI_k, rZ_0, rZ_1, rZ_i, aR_24, aR_25, aZ_k, tZ_k, rf_3_6, rf_3_7, rf_3_8, rf_5_0, rf_5_1, rf_5_3, rf_5_4, rf_5_5, rf_5_7, rf_6_4, rf_6_11, rf_1_0, rf_1_1, rf_0_6, rf_9_7, rf_9_8, rf_8_0, rf_11_0, rf_11_5, rf_11_6, rf_11_7, rf_11_9, rf_11_10, rf_11_11, rf_11_12, rf_11_3, rf_11_4, Nat.reduceAdd, Nat.zero_add, kc_0, kc_1, kc_34, kc_35, kc_36, kc_37, kc_38, kc_39, kc_40, kc_41, kc_42, kc_43, kc_44, kc_45, kc_46, kc_207, kc_208, kc_209, kc_210, kc_211, kc_212, kc_213, kc_214, kc_215, kc_216, kc_377, kc_378, kc_379, kc_380, kc_381, kc_382, kc_383, kc_384, kc_385, kc_386, kc_387, kc_388, kc_389, kc_390, kc_391, kc_392, kc_393, kc_394, kc_395, kc_414, kc_415, kc_416, kc_417, kc_418, kn_1, kn_36, kn_39, kn_41, kn_42, kn_43, kn_44, kn_45, kn_46, kn_209, kn_211, kn_212, kn_213, kn_214, kn_215, kn_216, kn_378, kn_380, kn_382, kn_383, kn_385, kn_386, kn_388, kn_390, kn_392, kn_393, kn_395, kn_414, kn_415, kn_417, kn_418, hq]
end AC
