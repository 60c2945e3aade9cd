/- needs: 74.expr -/
/-! lines: what is told so far -/
abbrev pX : Type := (Nat → Nat) × (Nat → Nat → Int32) × (Nat → Bool) × (Nat → Nat) × (Nat → Int32)
def upN (V : Nat → Nat) (i x : Nat) : Nat → Nat := fun j => if j = i then x else V j
theorem upN_at (V : Nat → Nat) (i x : Nat) : upN V i x i = x := by unfold upN; rw [if_pos rfl]
theorem upN_ne (V : Nat → Nat) {i j : Nat} (x : Nat) (h : ¬ j = i) : upN V i x j = V j := by unfold upN; rw [if_neg h]
/-- V: 0 shots, 1 day, 2 move, 3 cold, 4 rules, 5 parts, 6 steps of rules, 7 minutes, 8 to 10 whether day, move, cold are told -/
def CL (s : sg) (p : Nat) (X : pX) : Prop := s.1 p 0 = nI (X.1 1) ∧ s.1 p 1 = nI (X.1 2) ∧ s.1 p 2 = nI (X.1 3) ∧ s.1 p 3 = nI (X.1 0) ∧ s.1 p 4 = nI (X.1 5) ∧ s.1 p 5 = nI (X.1 7) ∧ s.1 (p + 4) 0 = nI (X.1 4) ∧ (∀ j, j < 3 → s.1 34 (4 + j) = nI (X.1 (8 + j))) ∧ (∀ k, k < X.1 0 → ShAt s (p + 8 + k) X.2.1 k) ∧ kSky s (p + 2) X.2.2.1 ∧ ∀ i, i < X.1 4 → s.1 (p + 6) i = nI (X.2.2.2.1 (i + 1))
def RLn (s : sg) (X : pX) : Prop := (∀ i, i < 6 → s.1 422 (8 + i) = nI (X.1 i)) ∧ s.1 422 15 = nI (min (X.1 7) 480) ∧ (∀ f k, 1 ≤ f → f ≤ 6 → k < X.1 0 → s.1 (422 + f) (8 + k) = X.2.1 f k) ∧ (∀ m, m < 480 → s.1 429 (480 + m) = sk_i (X.2.2.1 m)) ∧ ∀ i, i < X.1 4 → s.1 430 (4 + i) = nI (X.2.2.2.1 i) ∧ s.1 431 (4 + i) = nI (X.2.2.2.1 (i + 1))
def gS (A : Nat → Nat → Int32) (k : Nat) : Prop := okS A k ∧ (∃ l, A 3 k = nI l ∧ 1 ≤ l ∧ l ≤ 30) ∧ (∃ u, A 4 k = nI u ∧ u ≤ 480) ∧ (∃ v, A 5 k = nI v ∧ v ≤ 480) ∧ (A 6 k = -1 ∨ ∃ j, j < k ∧ A 6 k = nI j)
def WX (e : Nat) (X : pX) : Prop := X.1 0 ≤ 8 ∧ (10 ≤ X.1 1 ∧ X.1 1 ≤ 480) ∧ X.1 2 ≤ 120 ∧ X.1 3 ≤ 9 ∧ X.1 4 ≤ 4 ∧ X.1 5 ≤ 16 ∧ X.1 6 ≤ e ∧ X.1 7 ≤ 480 * X.1 5 ∧ (∀ j, j < 3 → X.1 (8 + j) ≤ 1) ∧ (∀ k, k < X.1 0 → gS X.2.1 k) ∧ X.2.2.2.1 0 = 0 ∧ X.2.2.2.1 (X.1 4) = X.1 6 ∧ ∀ r, r < X.1 4 → X.2.2.2.1 r ≤ X.2.2.2.1 (r + 1) ∧ X.2.2.2.1 (r + 1) ≤ X.1 6 ∧ WL X.2.2.2.2 (X.2.2.2.1 r) (X.2.2.2.1 (r + 1)) 30
def CX (T : Nat → Nat) (L p : Nat) (s : sg) (e : Nat) (X : pX) : Prop := CPs T L p s e (X.1 6) X.2.2.2.2 ∧ CL s p X
def RX (T : Nat → Nat) (L : Nat) (s : sg) (e : Nat) (X : pX) : Prop := RPs T L s e (X.1 6) X.2.2.2.2 ∧ RLn s X
def cF (p x j : Nat) : Prop := (p ≤ x ∧ x ≤ p + 15) ∨ (x = 34 ∧ ¬ j = 3) ∨ x = 35
def rF (x j : Nat) : Prop := (x = 419 ∧ 17 ≤ j ∧ j ≤ 24 ∧ ¬ j = 18) ∨ (x = 422 ∧ 8 ≤ j) ∨ (423 ≤ x ∧ x ≤ 428 ∧ 8 ≤ j) ∨ (x = 429 ∧ 480 ≤ j) ∨ (430 ≤ x ∧ x ≤ 431 ∧ 4 ≤ j) ∨ (x = 432 ∧ 700 ≤ j)
theorem cE_F (p x j : Nat) (h : cE p x j) : cF p x j := by unfold cE at h; unfold cF; omega
theorem rE_F (x j : Nat) (h : rE x j) : rF x j := by unfold rE at h; unfold rF; omega
section LNF
variable {N : Nat} {T : Nat → Nat} {L p e k : Nat} {Q : Nat → Int32} {s s' : sg} {X : pX} {D : Nat → Nat → Prop}
theorem CPs_o (h : CPs T L p s e k Q) (f : Fr D s s') (hd : ∀ x j, (x = 34 ∧ j = 3) ∨ x = 35 ∨ x = 36 ∨ x = p + 5 ∨ (x = p + 4 ∧ j = 2) → ¬ D x j) : CPs T L p s' e k Q := by
  obtain ⟨h1, h2, h3, h4, h5⟩ := h
  exact ⟨(f.2.1 _ _ (hd _ _ (by omega))).trans h1, ⟨(f.1 _ _ (hd _ _ (by omega))).trans h2.1, fun j hj => (f.1 _ _ (hd _ _ (by omega))).trans (h2.2 j hj)⟩, ⟨(f.1 _ _ (hd _ _ (by omega))).trans h3.1, (f.1 _ _ (hd _ _ (by omega))).trans h3.2.1, (f.1 _ _ (hd _ _ (by omega))).trans h3.2.2⟩, (f.1 _ _ (hd _ _ (by omega))).trans h4, fun j hj => (f.1 _ _ (hd _ _ (by omega))).trans (h5 j hj)⟩
theorem RPs_o (h : RPs T L s e k Q) (f : Fr D s s') (hd : ∀ x j, (x = 419 ∧ 17 ≤ j ∧ j ≤ 23) ∨ x = 434 ∨ x = 432 ∨ (x = 422 ∧ j = 14) → ¬ D x j) : RPs T L s' e k Q := by
  obtain ⟨h1, h2, h3, h4, h5, h6⟩ := h
  exact ⟨⟨(f.1 _ _ (hd _ _ (by omega))).trans h1.1, fun j hj => (f.1 _ _ (hd _ _ (by omega))).trans (h1.2 j hj)⟩, ⟨(f.1 _ _ (hd _ _ (by omega))).trans h2.1, (f.1 _ _ (hd _ _ (by omega))).trans h2.2.1, (f.1 _ _ (hd _ _ (by omega))).trans h2.2.2.1, (f.1 _ _ (hd _ _ (by omega))).trans h2.2.2.2⟩, fun w => (f.1 _ _ (hd _ _ (by omega))).trans (h3 w), (f.1 _ _ (hd _ _ (by omega))).trans h4, (f.1 _ _ (hd _ _ (by omega))).trans h5, fun j hj => (f.1 _ _ (hd _ _ (by omega))).trans (h6 j hj)⟩
theorem ShAt_o {q k : Nat} {A : pln} (h : ShAt s q A k) (f : Fr D s s') (hd : ∀ j, ¬ D q j) : ShAt s' q A k := by
  obtain ⟨h1, h2, h3, h4, h5, h6⟩ := h
  exact ⟨(f.1 _ _ (hd _)).trans h1, (f.1 _ _ (hd _)).trans h2, (f.1 _ _ (hd _)).trans h3, (f.1 _ _ (hd _)).trans h4, (f.1 _ _ (hd _)).trans h5, (f.1 _ _ (hd _)).trans h6⟩
theorem CL_E (hp : plA p) (hn : X.1 0 ≤ 8) (h : CL s p X) (f : Fr (cE p) s s') : CL s' p X := by
  have hp' : p = 2 ∨ p = 18 := hp
  obtain ⟨h1, h2, h3, h4, h5, h6, h7, h8, h9, h10, h11⟩ := h
  refine ⟨(f.1 _ _ (by unfold cE; omega)).trans h1, (f.1 _ _ (by unfold cE; omega)).trans h2, (f.1 _ _ (by unfold cE; omega)).trans h3, (f.1 _ _ (by unfold cE; omega)).trans h4, (f.1 _ _ (by unfold cE; omega)).trans h5, (f.1 _ _ (by unfold cE; omega)).trans h6, (f.1 _ _ (by unfold cE; omega)).trans h7, fun j hj => (f.1 _ _ (by unfold cE; omega)).trans (h8 j hj), fun k hk => ShAt_o (h9 k hk) f (fun j => by unfold cE; omega), kSky_fr h10 f (fun j => by unfold cE; omega), fun i hi => (f.1 _ _ (by unfold cE; omega)).trans (h11 i hi)⟩
theorem RLn_E (h : RLn s X) (f : Fr rE s s') : RLn s' X := by
  obtain ⟨h1, h2, h3, h4, h5⟩ := h
  exact ⟨fun i hi => (f.1 _ _ (by unfold rE; omega)).trans (h1 i hi), (f.1 _ _ (by unfold rE; omega)).trans h2, fun g k g1 g2 hk => (f.1 _ _ (by unfold rE; omega)).trans (h3 g k g1 g2 hk), fun m hm => (f.1 _ _ (by unfold rE; omega)).trans (h4 m hm), fun i hi => ⟨(f.1 _ _ (by unfold rE; omega)).trans (h5 i hi).1, (f.1 _ _ (by unfold rE; omega)).trans (h5 i hi).2⟩⟩
theorem a422 {i : Nat} (hi : i < 16) : aI (mk s) 422 (nI i) = some (s.1 422 i) := by
  have h := aI_k (s := s) (a := 422) (i := nI i) ⟨rfl, inA_nI hi (by omega)⟩
  rw [nI_clamp (by omega)] at h
  exact h
theorem t422 {i : Nat} (hi : i < 16) {x : Int32} : tI (mk s) 422 (nI i) x = some (mk (sI s 422 i x)) := by
  have h := tI_k (s := s) (a := 422) (i := nI i) (x := x) ⟨rfl, inA_nI hi (by omega)⟩
  rw [nI_clamp (by omega)] at h
  exact h
/-- one more of a kind: the reference looks whether there is room -/
theorem r_an0 (hN1 : 1000 ≤ N) (hL : L ≤ 700) (hT : ∀ j, j < L → T j < 256) (he : e ≤ L) {i m v : Nat} {x y : Int32} (hx : x = nI i) (hy : y = nI m) (hi : i < 8) (hv : s.1 422 (8 + i) = nI v) (hv2 : v < 1000) (hm : m < 1000) (hne : ¬ v = m) (h : RPs T L s e k Q) : ∃ s', fX12_another N 419 x y (mk s) = some (.inl 1, mk s') ∧ RPs T L s' (tkE T L e) k Q ∧ Fr rE s s' := by
  obtain ⟨s', b1, b2⟩ := RPs_step (N := N) hN1 hL hT he h
  refine ⟨s', ?_, b2⟩
  have e8 : (8 : Int32) + nI i = nI (8 + i) := nI_add 8 i
  unfold fX12_another bX12_another_0 bX12_another_18
  rw [gR12 3 422 rfl rfl, ob_s, hx, hy, e8, a422 (by omega), ob_s, hv, if_pos (fun z => hne ((nI_inj (by omega) (by omega)).mp z)), gI12 23 rfl, ob_s, h.2.2.2.1, if_pos rfl, cV12, b1, cS_l, rZ_1]
theorem r_an1 {i m : Nat} {x y : Int32} (hx : x = nI i) (hy : y = nI m) (hi : i < 8) (hv : s.1 422 (8 + i) = nI m) (h : RPs T L s e k Q) : ∃ s', fX12_another N 419 x y (mk s) = some (.inl 0, mk s') ∧ s'.1 419 23 = nI 2 ∧ s'.1 419 24 = nI (tkA T L e) ∧ Fr rE s s' := by
  obtain ⟨s', b1, b2, b3⟩ := r_wr (N := N) h (f := 2) (x := 2) rfl
  refine ⟨s', ?_, b2, b3⟩
  have e8 : (8 : Int32) + nI i = nI (8 + i) := nI_add 8 i
  unfold fX12_another bX12_another_0 bX12_another_18
  rw [gR12 3 422 rfl rfl, ob_s, hx, hy, e8, a422 (by omega), ob_s, hv, if_neg (fun z => z rfl), cV12, b1, cS_l, gI12 23 rfl, ob_s, b2, if_neg (nI_b (by omega) (by omega)), rZ_0]
end LNF
/-- what was told once is as it was -/
def sFl (X X1 : pX) : Prop := ∀ i, i < 3 → X1.1 (8 + i) = X.1 (8 + i)
/-- what a line's words do, both sides -/
def Ln {α : Type} (T : Nat → Nat) (L p : Nat) (F : mm_C → mR Unit) (G K : mm_C → mR α) (e : Nat) (X : pX) (R : pX → Prop) : (Nat × Nat) ⊕ (Nat × pX) → Prop
  | .inl (f, e1) => (1 ≤ f ∧ f ≤ 4 ∧ e1 ≤ L) ∧ (∀ s, CX T L p s e X → ∃ s', F (mk s) = some (.inr 0, mk s') ∧ s'.1 34 1 = nI f ∧ s'.1 34 0 = nI (tkA T L e1) ∧ Fr (cF p) s s') ∧ ∀ s, RX T L s e X → ∃ s', G (mk s) = K (mk s') ∧ s'.1 419 23 = nI f ∧ s'.1 419 24 = nI (tkA T L e1) ∧ Fr rF s s'
  | .inr (e1, X1) => (e < e1 ∧ e1 ≤ L ∧ WX e1 X1 ∧ R X1) ∧ (∀ s, CX T L p s e X → ∃ s', F (mk s) = some (.inl (), mk s') ∧ CX T L p s' e1 X1 ∧ Fr (cF p) s s') ∧ ∀ s, RX T L s e X → ∃ s', G (mk s) = K (mk s') ∧ RX T L s' e1 X1 ∧ Fr rF s s'
/-! parts of the sky -/
section LNS
variable {N : Nat} {T : Nat → Nat} {L p e : Nat} {X : pX}
theorem skP (hp : plA p) : skO (p + 2) := by
  rcases hp with rfl | rfl <;> exact ⟨rfl, rfl, rfl⟩
theorem t429 {s : sg} {i : Nat} (hi : i < 960) {x : Int32} : tI (mk s) 429 (nI i) x = some (mk (sI s 429 i x)) := by
  have h := tI_k (s := s) (a := 429) (i := nI i) (x := x) ⟨rfl, inA_nI hi (by omega)⟩
  rw [nI_clamp (by omega)] at h
  exact h
def rY (x j : Nat) : Prop := (x = 429 ∧ 480 ≤ j) ∨ (x = 422 ∧ (j = 13 ∨ j = 15))
theorem r_sky22 {K : Nat → Bool} {on : Bool} {M v c : Nat} (hM : M ≤ 10000) (hv : v ≤ 480) (hc : c < 100) : ∀ (f i : Nat) (s : sg), v - i < f → i ≤ v → s.1 422 15 = nI (min (M + i) 480) → (∀ m, m < 480 → s.1 429 (480 + m) = sk_i (pnt K on M (M + i) m)) → s.1 422 13 = nI c → ∃ s', lX12_readSky_22 N f 419 (sk_i on) (nI v) (nI i) (mk s) = some (.inl (), mk s') ∧ s'.1 422 15 = nI (min (M + v) 480) ∧ (∀ m, m < 480 → s'.1 429 (480 + m) = sk_i (pnt K on M (M + v) m)) ∧ s'.1 422 13 = nI (c + 1) ∧ Fr rY s s' := by
  intro f
  induction f with
  | zero => intro i s h; omega
  | succ f ih =>
    intro i s hf hi h15 hK h13
    have stop : min (M + i) 480 = min (M + v) 480 → (∀ m, m < 480 → pnt K on M (M + i) m = pnt K on M (M + v) m) → ∃ s', bX12_readSky_74 N 419 (mk s) = some (.inl (), mk s') ∧ s'.1 422 15 = nI (min (M + v) 480) ∧ (∀ m, m < 480 → s'.1 429 (480 + m) = sk_i (pnt K on M (M + v) m)) ∧ s'.1 422 13 = nI (c + 1) ∧ Fr rY s s' := by
      intro q1 q2
      refine ⟨sI s 422 13 (nI (c + 1)), ?_, ?_, fun m hm => ?_, sI_at _ _ _ _, Fr_sI (by unfold rY; omega)⟩
      · have e13 : aI (mk s) 422 (13 : Int32) = some (s.1 422 13) := a422 (i := 13) (by omega)
        have w13 : ∀ x, tI (mk s) 422 (13 : Int32) x = some (mk (sI s 422 13 x)) := fun x => t422 (i := 13) (by omega)
        unfold bX12_readSky_74
        rw [gR12 3 422 rfl rfl, ob_s, e13, ob_s, h13, nI_1, w13, ob_s]
      · rw [sI_1, if_neg (by omega), h15, q1]
      · rw [sI_1, if_neg (by omega), hK m hm, q2 m hm]
    show ∃ s', bX12_readSky_22 N (lX12_readSky_22 N f) 419 (sk_i on) (nI v) (nI i) (mk s) = _ ∧ _
    unfold bX12_readSky_22
    by_cases c1 : v ≤ i
    · have : i = v := by omega
      subst this
      rw [if_pos (nI_le c1 (by omega))]
      exact stop rfl (fun m hm => rfl)
    · have e15 : ∀ s : sg, aI (mk s) 422 (15 : Int32) = some (s.1 422 15) := fun s => a422 (i := 15) (by omega)
      have w15 : ∀ (s : sg) x, tI (mk s) 422 (15 : Int32) x = some (mk (sI s 422 15 x)) := fun s x => t422 (i := 15) (by omega)
      rw [if_neg (nI_ge (by omega) (by omega)), gR12 3 422 rfl rfl, ob_s, e15, ob_s, h15]
      by_cases c2 : 480 ≤ M + i
      · rw [if_pos (show (480 : Int32) ≤ nI (min (M + i) 480) from nI_le (a := 480) (by omega) (by omega))]
        exact stop (by omega) (fun m hm => by
          unfold pnt
          by_cases q : M ≤ m ∧ m < M + i
          · rw [if_pos q, if_pos (by omega)]
          · rw [if_neg q, if_neg (by omega)])
      · have em : min (M + i) 480 = M + i := by omega
        have e48 : (480 : Int32) + nI (M + i) = nI (480 + (M + i)) := nI_add 480 (M + i)
        rw [em] at h15 ⊢
        rw [if_neg (show ¬ (480 : Int32) ≤ nI (M + i) from nI_ge (b := 480) (by omega) (by omega)), gR12 10 429 rfl rfl, ob_s, ob_s, e15, ob_s, h15, e48, t429 (by omega), ob_s]
        generalize hs1 : sI s 429 (480 + (M + i)) (sk_i on) = s1
        have f1 : Fr rY s s1 := by rw [← hs1]; exact Fr_sI (by unfold rY; omega)
        have k15 : s1.1 422 15 = nI (M + i) := by rw [← hs1, sI_1, if_neg (by omega)]; exact h15
        rw [gR12 3 422 rfl rfl, ob_s, e15, ob_s, k15, nI_1, w15, ob_s, nI_1]
        have f2 : Fr rY s (sI s1 422 15 (nI (M + i + 1))) := Fr_t f1 (Fr_sI (by unfold rY; omega))
        obtain ⟨s', b1, b2, b3, b4, b5⟩ := ih (i + 1) (sI s1 422 15 (nI (M + i + 1))) (by omega) (by omega) (by rw [sI_at, show min (M + (i + 1)) 480 = M + i + 1 by omega]) (fun m hm => by
          rw [sI_1, if_neg (by omega), ← hs1, sI_1]
          by_cases q : m = M + i
          · rw [if_pos (by omega)]
            unfold pnt
            rw [if_pos (by omega)]
          · rw [if_neg (by omega), hK m hm]
            unfold pnt
            by_cases q2 : M ≤ m ∧ m < M + i
            · rw [if_pos q2, if_pos (by omega)]
            · rw [if_neg q2, if_neg (by omega)]) (by rw [sI_1, if_neg (by omega), ← hs1, sI_1, if_neg (by omega)]; exact h13)
        exact ⟨s', b1, b2, b3, b4, Fr_t f2 b5⟩
theorem c_addPart (hN1 : 1000 ≤ N) (hp : plA p) {s : sg} {K : Nat → Bool} {on : Bool} {M v c : Nat} (hM : M ≤ 10000) (hv1 : 1 ≤ v) (hv : v ≤ 480) (h5 : s.1 p 5 = nI M) (h4 : s.1 p 4 = nI c) (hK : kSky s (p + 2) K) : ∃ s', fX3_addPart N p (sk_i on) (nI v) (mk s) = some (.inl (), mk s') ∧ s'.1 p 5 = nI (M + v) ∧ s'.1 p 4 = nI (c + 1) ∧ kSky s' (p + 2) (pnt K on M (M + v)) ∧ Fr (fun x j => x = p + 3 ∨ (x = p ∧ (j = 4 ∨ j = 5))) s s' := by
  have kp := (plK hp).1
  obtain ⟨s1, r, b1, b2, b3⟩ := c_paintB (N := N) (on := on) (u := M) (v := M + v - 1) hN1 (skP hp) (by omega) (by omega) hK
  have g7 : gR (mk s) p 3 7 = some (p + 2) := gR_k ⟨kp, rfl, by decide⟩
  have g5 : ∀ s : sg, gI (mk s) p 3 5 = some (s.1 p 5) := fun s => gI_k ⟨kp, rfl, by decide⟩
  have g4 : ∀ s : sg, gI (mk s) p 3 4 = some (s.1 p 4) := fun s => gI_k ⟨kp, rfl, by decide⟩
  have q5 : ∀ (s : sg) x, pI (mk s) p 3 5 x = some (mk (sI s p 5 x)) := fun s x => pI_k ⟨kp, rfl, by decide⟩
  have q4 : ∀ (s : sg) x, pI (mk s) p 3 4 x = some (mk (sI s p 4 x)) := fun s x => pI_k ⟨kp, rfl, by decide⟩
  have e1 : nI M + nI v - (1 : Int32) = nI (M + v - 1) := by rw [nI_add]; exact nI_sub (b := 1) (by omega)
  have k5 : s1.1 p 5 = nI M := (b3.1 _ _ (by omega)).trans h5
  have k4 : (sI s1 p 5 (nI (M + v))).1 p 4 = nI c := by rw [sI_1, if_neg (by omega)]; exact (b3.1 _ _ (by omega)).trans h4
  rw [show M + v - 1 + 1 = M + v by omega] at b2
  have f2 : Fr (fun x j => x = p + 3 ∨ (x = p ∧ (j = 4 ∨ j = 5))) s1 (sI (sI s1 p 5 (nI (M + v))) p 4 (nI (c + 1))) := Fr_t (Fr_sI (by omega)) (Fr_sI (by omega))
  refine ⟨sI (sI s1 p 5 (nI (M + v))) p 4 (nI (c + 1)), ?_, ?_, sI_at _ _ _ _, kSky_fr (D := fun x j => x = p) b2 (Fr_t (Fr_sI rfl) (Fr_sI rfl)) (fun j => by omega), Fr_t (Fr_m b3 (by intro x j q; omega)) f2⟩
  · unfold fX3_addPart bX3_addPart_0
    rw [g7, ob_s, g5, ob_s, ob_s, h5, e1, cV_k ⟨(skP hp).1, by decide⟩, b1, cS_l, g5, ob_s, k5, nI_add, q5, ob_s, g4, ob_s, k4, nI_1, q4, ob_s]
  · rw [sI_1, if_neg (by omega), sI_at]
theorem lnPart (hN1 : 1000 ≤ N) (hL : L ≤ 700) (hT : ∀ j, j < L → T j < 256) (hp : plA p) (he : e ≤ L) (hk : ¬ tkK T L e = 0) (W : WX e X) (on : Bool) : ∃ o, Ln T L p (fX2_readsPart N 34 (sk_i on)) (fX12_readSky N 419 (sk_i on)) kU e X (sFl X) o := by
  have hp' : p = 2 ∨ p = 18 := hp
  have kp := (plK hp).1
  obtain ⟨w0, w1, w2, w3, w4, w5, w6, w7, w8, w9, w10, w11, w12⟩ := W
  have hA := tkA_le (T := T) he
  have hE := tkE_le (T := T) he
  have hE2 := tkE_gt he hk
  have g4 : ∀ s : sg, gI (mk s) p 3 4 = some (s.1 p 4) := fun s => gI_k ⟨kp, rfl, by decide⟩
  by_cases c : X.1 5 = 16
  · refine ⟨.inl (2, e), ⟨by omega, by omega, he⟩, fun s hs => ?_, fun s hs => ?_⟩
    · obtain ⟨s', b1, b2, b3, b4⟩ := c_ref (N := N) hs.1 (f := 2) (x := 2) rfl
      refine ⟨s', ?_, b2, b3, Fr_m b4 (cE_F p)⟩
      unfold fX2_readsPart bX2_readsPart_0
      rw [gR34p, ob_s, hs.1.1, g4, ob_s, hs.2.2.2.2.2.1, c, if_neg (show ¬ nI 16 < (16 : Int32) by decide), cV34, b1, cS_r]
    · obtain ⟨s', b1, b2, b3, b4⟩ := r_an1 (N := N) (i := 5) (m := 16) (x := 5) (y := 16) rfl rfl (by omega) (by rw [hs.2.1 5 (by omega), c]) hs.1
      refine ⟨s', ?_, b2, b3, Fr_m b4 rE_F⟩
      unfold fX12_readSky bX12_readSky_0
      rw [cV12, b1, cS_l, if_neg (fun z => z rfl)]
      rfl
  · have cH : ∀ s, CX T L p s e X → ∃ s2, CPs T L p s2 (tkE T L e) (X.1 6) X.2.2.2.2 ∧ Fr (cE p) s s2 ∧ fX2_readsPart N 34 (sk_i on) (mk s) = cS (fX2_readsNumber N 34 (1 : Int32) (480 : Int32) (mk s2)) fun r4 c5 => cV 3 p c5 (fX3_addPart N p (sk_i on) r4 c5) fun (_ : Unit) c6 => some (.inl (), c6) := fun s hs => by
      obtain ⟨s2, a1, a2, a3⟩ := CPs_adv (N := N) hN1 hL hT hp he hs.1
      refine ⟨s2, a2, a3, ?_⟩
      unfold fX2_readsPart bX2_readsPart_0 bX2_readsPart_17
      rw [gR34p, ob_s, hs.1.1, g4, ob_s, hs.2.2.2.2.2.1, if_pos (show nI (X.1 5) < (16 : Int32) from nI_lt (b := 16) (by omega) (by omega)), gR34, ob_s, cV10, a1, cS_l, gR34p, ob_s, a2.1, cV34]
    have rH : ∀ s, RX T L s e X → ∃ s2, RPs T L s2 (tkE T L e) (X.1 6) X.2.2.2.2 ∧ Fr rE s s2 ∧ fX12_readSky N 419 (sk_i on) (mk s) = cS (fX12_readNumber N 419 (1 : Int32) (480 : Int32) (mk s2)) fun r3 c4 => lX12_readSky_22 N N 419 (sk_i on) r3 (0 : Int32) c4 := fun s hs => by
      obtain ⟨s2, a1, a2, a3⟩ := r_an0 (N := N) (i := 5) (m := 16) (v := X.1 5) (x := 5) (y := 16) hN1 hL hT he rfl rfl (by omega) (hs.2.1 5 (by omega)) (by omega) (by omega) c hs.1
      refine ⟨s2, a2, a3, ?_⟩
      unfold fX12_readSky bX12_readSky_0
      rw [cV12, a1, cS_l, if_pos (by decide), cV12]
    by_cases c2 : nG T L (tkE T L e) 1 480 = 0
    · obtain ⟨n1, n2, n3⟩ := nG_0 c2
      have hkk : ¬ tkK T L (tkE T L e) = 0 := by have := (nF_0 n1).1; omega
      have hA2 := tkA_le (T := T) hE.2
      have hE3 := tkE_le (T := T) hE.2
      have hE4 := tkE_gt hE.2 hkk
      refine ⟨.inr (tkE T L (tkE T L e), (upN (upN X.1 5 (X.1 5 + 1)) 7 (X.1 7 + nV T L (tkE T L e)), X.2.1, pnt X.2.2.1 on (X.1 7) (X.1 7 + nV T L (tkE T L e)), X.2.2.2)), ⟨by omega, hE3.2, ?_, fun i hi => (by
        show upN (upN X.1 5 (X.1 5 + 1)) 7 (X.1 7 + nV T L (tkE T L e)) (8 + i) = X.1 (8 + i)
        rw [upN_ne _ _ (by omega), upN_ne _ _ (by omega)])⟩, fun s hs => ?_, fun s hs => ?_⟩
      · refine ⟨w0, w1, w2, w3, w4, ?_, ?_, ?_, fun j hj => ?_, w9, w10, w11, w12⟩
        · show upN (upN X.1 5 (X.1 5 + 1)) 7 (X.1 7 + nV T L (tkE T L e)) 5 ≤ 16
          rw [upN_ne _ _ (by omega), upN_at]; omega
        · show upN (upN X.1 5 (X.1 5 + 1)) 7 (X.1 7 + nV T L (tkE T L e)) 6 ≤ _
          rw [upN_ne _ _ (by omega), upN_ne _ _ (by omega)]; omega
        · show upN (upN X.1 5 (X.1 5 + 1)) 7 (X.1 7 + nV T L (tkE T L e)) 7 ≤ 480 * upN (upN X.1 5 (X.1 5 + 1)) 7 (X.1 7 + nV T L (tkE T L e)) 5
          rw [upN_at, upN_ne _ _ (by omega), upN_at]; omega
        · show upN (upN X.1 5 (X.1 5 + 1)) 7 (X.1 7 + nV T L (tkE T L e)) (8 + j) ≤ 1
          rw [upN_ne _ _ (by omega), upN_ne _ _ (by omega)]; exact w8 j hj
      · obtain ⟨s2, a2, a3, a1⟩ := cH s hs
        have l2 := CL_E hp w0 hs.2 a3
        obtain ⟨s3, b1, b2, b3⟩ := c_rn0 (N := N) (lo := 1) (hi := 480) (x := 1) (y := 480) hN1 hL hT hp hE.2 a2 rfl rfl (by omega) c2
        have l3 := CL_E hp w0 l2 b3
        obtain ⟨s4, d1, d2, d3, d4, d5⟩ := c_addPart (N := N) (on := on) hN1 hp (M := X.1 7) (v := nV T L (tkE T L e)) (c := X.1 5) (by omega) n2 n3 l3.2.2.2.2.2.1 l3.2.2.2.2.1 l3.2.2.2.2.2.2.2.2.2.1
        refine ⟨s4, ?_, ⟨CPs_o b2 d5 (by intro x j q; omega), ?_⟩, Fr_t (Fr_m a3 (cE_F p)) (Fr_t (Fr_m b3 (cE_F p)) (Fr_m d5 (by intro x j q; unfold cF; omega)))⟩
        · rw [a1, b1, cS_l, cV_k ⟨kp, by decide⟩, d1, cS_l]
        · obtain ⟨h1, h2, h3, h4, h5, h6, h7, h8, h9, h10, h11⟩ := l3
          exact ⟨(d5.1 _ _ (by omega)).trans h1, (d5.1 _ _ (by omega)).trans h2, (d5.1 _ _ (by omega)).trans h3, (d5.1 _ _ (by omega)).trans h4, d3, d2, (d5.1 _ _ (by omega)).trans h7, fun j hj => (by
            show s4.1 34 (4 + j) = nI (upN (upN X.1 5 (X.1 5 + 1)) 7 (X.1 7 + nV T L (tkE T L e)) (8 + j))
            rw [upN_ne _ _ (by omega), upN_ne _ _ (by omega)]
            exact (d5.1 _ _ (by omega)).trans (h8 j hj)), fun k hk => ShAt_o (h9 k hk) d5 (fun j => by omega), d4, fun i hi => (d5.1 _ _ (by omega)).trans (h11 i hi)⟩
      · obtain ⟨s2, a2, a3, a1⟩ := rH s hs
        have l2 := RLn_E hs.2 a3
        obtain ⟨s3, b1, b2, b3⟩ := r_rn0 (N := N) (lo := 1) (hi := 480) (x := 1) (y := 480) hN1 hL hT hE.2 a2 rfl rfl (by omega) c2
        have l3 := RLn_E l2 b3
        obtain ⟨s4, d1, d2, d3, d4, d5⟩ := r_sky22 (N := N) (K := X.2.2.1) (on := on) (M := X.1 7) (v := nV T L (tkE T L e)) (c := X.1 5) (by omega) n3 (by omega) N 0 s3 (by omega) (by omega) l3.2.1 (fun m hm => by
          rw [l3.2.2.2.1 m hm]
          unfold pnt
          rw [if_neg (by omega)]) (l3.1 5 (by omega))
        refine ⟨s4, ?_, ⟨RPs_o b2 d5 (by intro x j q; unfold rY; omega), ?_⟩, Fr_t (Fr_m a3 rE_F) (Fr_t (Fr_m b3 rE_F) (Fr_m d5 (by intro x j q; unfold rY at q; unfold rF; omega)))⟩
        · rw [a1, b1, cS_l]
          exact d1
        · obtain ⟨h1, h2, h3, h4, h5⟩ := l3
          refine ⟨fun i hi => ?_, d2, fun g k g1 g2 hk => (d5.1 _ _ (by unfold rY; omega)).trans (h3 g k g1 g2 hk), d3, fun i hi => ⟨(d5.1 _ _ (by unfold rY; omega)).trans (h5 i hi).1, (d5.1 _ _ (by unfold rY; omega)).trans (h5 i hi).2⟩⟩
          show s4.1 422 (8 + i) = nI (upN (upN X.1 5 (X.1 5 + 1)) 7 (X.1 7 + nV T L (tkE T L e)) i)
          by_cases c5 : i = 5
          · rw [c5, upN_ne _ _ (by omega), upN_at]; exact d4
          · rw [upN_ne _ _ (by omega), upN_ne _ _ c5]; exact (d5.1 _ _ (by unfold rY; omega)).trans (h1 i hi)
    · have hg2 := nG_2 T L (tkE T L e) 1 480
      refine ⟨.inl (nG T L (tkE T L e) 1 480, tkE T L e), ⟨by omega, by omega, hE.2⟩, fun s hs => ?_, fun s hs => ?_⟩
      · obtain ⟨s2, a2, a3, a1⟩ := cH s hs
        obtain ⟨s3, b1, b2, b3, b4⟩ := c_rn1 (N := N) (lo := 1) (hi := 480) (x := 1) (y := 480) hN1 hL hT hE.2 a2 rfl rfl (by omega) (by omega) c2
        exact ⟨s3, by rw [a1, b1, cS_r], b2, b3, Fr_t (Fr_m a3 (cE_F p)) (Fr_m b4 (cE_F p))⟩
      · obtain ⟨s2, a2, a3, a1⟩ := rH s hs
        have l2 := RLn_E hs.2 a3
        obtain ⟨s3, b1, b2, b3, b4⟩ := r_rn1 (N := N) (lo := 1) (hi := 480) (x := 1) (y := 480) hL hT hE.2 a2 rfl rfl (by omega) (by omega) c2
        have l3 := RLn_E l2 b4
        obtain ⟨s4, d1, d2, d3, d4, d5⟩ := r_sky22 (N := N) (K := X.2.2.1) (on := on) (M := X.1 7) (v := 0) (c := X.1 5) (by omega) (by omega) (by omega) N 0 s3 (by omega) (by omega) l3.2.1 (fun m hm => by
          rw [l3.2.2.2.1 m hm]
          unfold pnt
          rw [if_neg (by omega)]) (l3.1 5 (by omega))
        refine ⟨s4, ?_, (d5.1 _ _ (by unfold rY; omega)).trans b2, (d5.1 _ _ (by unfold rY; omega)).trans b3, Fr_t (Fr_m a3 rE_F) (Fr_t (Fr_m b4 rE_F) (Fr_m d5 (by intro x j q; unfold rY at q; unfold rF; omega)))⟩
        rw [a1, b1, cS_l]
        exact d1
end LNS
