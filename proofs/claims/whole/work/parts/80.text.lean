/- needs: 79.line -/
/-! all lines of a text -/
def Ls {α : Type} (T : Nat → Nat) (L p : Nat) (F : mm_C → mR Unit) (G K : mm_C → mR α) (e : Nat) (X : pX) : (Nat × Nat) ⊕ (Nat × pX) → Prop
  | .inl (f, e1) => (1 ≤ f ∧ f ≤ 4 ∧ e1 ≤ L) ∧ (∀ s, CX T L p s e X → ∃ s', F (mk s) = some (.inr 0, mk s') ∧ s'.1 34 1 = nI f ∧ s'.1 34 0 = nI (tkA T L e1) ∧ Fr (cF p) s s') ∧ ∀ s, RX T L s e X → ∃ s', G (mk s) = K (mk s') ∧ s'.1 419 23 = nI f ∧ s'.1 419 24 = nI (tkA T L e1) ∧ Fr rF s s'
  | .inr (e1, X1) => (e1 ≤ L ∧ WX e1 X1) ∧ (∀ s, CX T L p s e X → ∃ s', F (mk s) = some (.inl (), mk s') ∧ CX T L p s' e1 X1 ∧ Fr (cF p) s s') ∧ ∀ s, RX T L s e X → ∃ s', G (mk s) = K (mk s') ∧ RX T L s' e1 X1 ∧ Fr rF s s'
section LLS
variable {N : Nat} {T : Nat → Nat} {L p e : Nat} {X : pX}
theorem rb_134 {x : Int32} {s : sg} (f : Nat) (hb : ¬ s.1 419 23 = 0) : lX12_plan_134 N (f + 1) 419 x (mk s) = bX12_plan_157 N 419 (mk s) := by
  show bX12_plan_134 N (lX12_plan_134 N f) 419 x (mk s) = _
  unfold bX12_plan_134
  rw [gI12 23 rfl, ob_s, if_pos hb]
theorem lnStop (W : WX e X) (he : e ≤ L) (hk : tkK T L e = 0) (i f fr : Nat) (x : Int32) : Ls T L p (lX2_readsLines_2 N (f + 1) 34 (nI i)) (lX12_plan_134 N (fr + 1) 419 x) (bX12_plan_157 N 419) e X (.inr (e, X)) := by
  refine ⟨⟨he, W⟩, fun s hs => ⟨s, ?_, hs, Fr_r _ _⟩, fun s hs => ⟨s, ?_, hs, Fr_r _ _⟩⟩
  · show bX2_readsLines_2 N (lX2_readsLines_2 N f) 34 (nI i) (mk s) = _
    unfold bX2_readsLines_2
    by_cases c : (700 : Int32) ≤ nI i
    · rw [if_pos c]
    · rw [if_neg c, gR34, ob_s, gI10 0 rfl, ob_s, hs.1.2.2.1.1, hk, if_pos (show nI 0 = 0 from rfl)]
  · show bX12_plan_134 N (lX12_plan_134 N fr) 419 x (mk s) = _
    unfold bX12_plan_134
    rw [gI12 23 rfl, ob_s, hs.1.2.2.2.1, if_neg (fun z => z rfl), gI12 19 rfl, ob_s, hs.1.2.1.1, hk, if_pos (show nI 0 = 0 from rfl)]
theorem WX_up {e2 : Nat} (W : WX e X) (h : e ≤ e2) : WX e2 X := by
  obtain ⟨w0, w1, w2, w3, w4, w5, w6, w7, w8, w9, w10, w11, w12⟩ := W
  exact ⟨w0, w1, w2, w3, w4, w5, Nat.le_trans w6 h, w7, w8, w9, w10, w11, w12⟩
theorem lnLines (hN1 : 1000 ≤ N) (hL : L ≤ 700) (hT : ∀ j, j < L → T j < 256) (hp : plA p) : ∀ (m e : Nat) (X : pX) (i f fr : Nat), L - e ≤ m → L - e < f → L - e < fr → i ≤ e → e ≤ L → WX e X → ∃ o, Ls T L p (lX2_readsLines_2 N f 34 (nI i)) (lX12_plan_134 N fr 419 (nI (dn X.1))) (bX12_plan_157 N 419) e X o := by
  intro m
  induction m with
  | zero =>
    intro e X i f fr hm hf hfr hi he W
    have hA := tkA_le (T := T) he
    have hk : tkK T L e = 0 := by
      unfold tkK
      rw [if_neg (by omega)]
    obtain ⟨f2, rfl⟩ : ∃ f2, f = f2 + 1 := ⟨f - 1, by omega⟩
    obtain ⟨f3, rfl⟩ : ∃ f3, fr = f3 + 1 := ⟨fr - 1, by omega⟩
    exact ⟨_, lnStop W he hk i f2 f3 _⟩
  | succ m ih =>
    intro e X i f fr hm hf hfr hi he W
    obtain ⟨f2, rfl⟩ : ∃ f2, f = f2 + 1 := ⟨f - 1, by omega⟩
    obtain ⟨f3, rfl⟩ : ∃ f3, fr = f3 + 1 := ⟨fr - 1, by omega⟩
    by_cases hk : tkK T L e = 0
    · exact ⟨_, lnStop W he hk i f2 f3 _⟩
    have hA := tkA_le (T := T) he
    have hA2 := tkK_A hk
    have h4 := tkK_4 (T := T) (L := L) (e := e)
    obtain ⟨v2, o, ho⟩ := lnLine (N := N) hN1 hL hT hp he W hk
    have cS1 : ∀ s, CX T L p s e X → lX2_readsLines_2 N (f2 + 1) 34 (nI i) (mk s) = cS (fX2_readsLine N 34 (mk s)) fun (_ : Unit) c3 => Option.bind (gR c3 34 2 2) fun x4 => cV 10 x4 c3 (fX10_isSign N x4 (59 : Int32) c3) fun r5 c6 => if ¬ r5 = 0 then (bX2_readsLines_40 N (lX2_readsLines_2 N f2) 34 (nI i) c6) else (cV 2 34 c6 (fX2_refuses N 34 (1 : Int32) c6) fun (_ : Unit) c7 => bX2_readsLines_40 N (lX2_readsLines_2 N f2) 34 (nI i) c7) := fun s hs => by
      show bX2_readsLines_2 N (lX2_readsLines_2 N f2) 34 (nI i) (mk s) = _
      unfold bX2_readsLines_2
      rw [if_neg (show ¬ (700 : Int32) ≤ nI i from nI_ge (b := 700) (by omega) (by omega)), gR34, ob_s, gI10 0 rfl, ob_s, hs.1.2.2.1.1, if_neg (nI_ne (c := 0) (x := 0) rfl (by omega) (by omega) hk), cV34]
    have rS1 : ∀ s, RX T L s e X → lX12_plan_134 N (f3 + 1) 419 (nI (dn X.1)) (mk s) = cS (bX12_readLine_0 N 419 (nI (dn X.1)) (mk s)) fun r3 c4 => lX12_plan_134 N f3 419 r3 c4 := fun s hs => by
      show bX12_plan_134 N (lX12_plan_134 N f3) 419 (nI (dn X.1)) (mk s) = _
      unfold bX12_plan_134 fX12_readLine
      rw [gI12 23 rfl, ob_s, hs.1.2.2.2.1, if_neg (fun z => z rfl), gI12 19 rfl, ob_s, hs.1.2.1.1, if_neg (nI_ne (c := 0) (x := 0) rfl (by omega) (by omega) hk), cV12]
    match o, ho with
    | .inl (fl, e1), ho =>
      obtain ⟨h0, h1, h2⟩ := ho
      refine ⟨.inl (fl, e1), h0, fun s hs => ?_, fun s hs => ?_⟩
      · obtain ⟨s', b1, b2⟩ := h1 s hs
        exact ⟨s', by rw [cS1 s hs, b1, cS_r], b2⟩
      · obtain ⟨s', b1, b2, b3⟩ := h2 s hs
        have hb : ¬ s'.1 419 23 = 0 := by rw [b2]; exact nI_b h0.1 h0.2.1
        refine ⟨s', ?_, b2, b3⟩
        obtain ⟨f4, rfl⟩ : ∃ f4, f3 = f4 + 1 := ⟨f3 - 1, by omega⟩
        rw [rS1 s hs, b1]
        unfold bX12_readLine_213
        rw [cV12, rb_mark hb, cS_l, cS_l, rb_134 f4 hb]
    | .inr (e1, X1), ho =>
      obtain ⟨⟨h01, h02, h03, h04⟩, h1, h2⟩ := ho
      have hE := tkE_le (T := T) h02
      have hA1 := tkA_le (T := T) h02
      cases c : isS T L e1 59 with
      | false =>
        refine ⟨.inl (1, e1), ⟨by omega, by omega, h02⟩, fun s hs => ?_, fun s hs => ?_⟩
        · obtain ⟨s1, b1, b2, b3⟩ := h1 s hs
          obtain ⟨s', d1, d2, d3, d4⟩ := c_ref (N := N) b2.1 (f := 1) (x := 1) rfl
          refine ⟨s', ?_, d2, d3, Fr_t b3 (Fr_m d4 (cE_F p))⟩
          rw [cS1 s hs, b1, cS_l, gR34, ob_s, cV10, c_sgn (c := 59) (x := 59) hL hT b2.1 rfl (by decide), cS_l, c, if_neg (fun z => z rfl), cV34, d1, cS_r]
        · obtain ⟨s1, b1, b2, b3⟩ := h2 s hs
          obtain ⟨s', d1, d2, d3, d4⟩ := r_mk1 (N := N) (c := 59) (x := 59) hL hT b2.1 rfl (by decide) c
          have hb : ¬ s'.1 419 23 = 0 := by rw [d2]; exact nI_b (by omega) (by omega)
          refine ⟨s', ?_, d2, d3, Fr_t b3 (Fr_m d4 rE_F)⟩
          obtain ⟨f4, rfl⟩ : ∃ f4, f3 = f4 + 1 := ⟨f3 - 1, by omega⟩
          rw [rS1 s hs, b1]
          unfold bX12_readLine_213
          rw [cV12, d1, cS_l, cS_l, rb_134 f4 hb]
      | true =>
        have hk1 : ¬ tkK T L e1 = 0 := by have := (of_decide_eq_true c).1; omega
        have hE2 := tkE_gt h02 hk1
        obtain ⟨o, ho⟩ := ih (tkE T L e1) X1 (i + 1) f2 f3 (by omega) (by omega) (by omega) (by omega) hE.2 (WX_up h03 (by omega))
        have cS2 : ∀ s, CX T L p s e X → ∃ s3, lX2_readsLines_2 N (f2 + 1) 34 (nI i) (mk s) = lX2_readsLines_2 N f2 34 (nI (i + 1)) (mk s3) ∧ CX T L p s3 (tkE T L e1) X1 ∧ Fr (cF p) s s3 := fun s hs => by
          obtain ⟨s1, b1, b2, b3⟩ := h1 s hs
          obtain ⟨s3, d1, d2, d3⟩ := CPs_adv (N := N) hN1 hL hT hp h02 b2.1
          refine ⟨s3, ?_, ⟨d2, CL_E hp h03.1 b2.2 d3⟩, Fr_t b3 (Fr_m d3 (cE_F p))⟩
          rw [cS1 s hs, b1, cS_l, gR34, ob_s, cV10, c_sgn (c := 59) (x := 59) hL hT b2.1 rfl (by decide), cS_l, c, if_pos (by decide)]
          unfold bX2_readsLines_40
          rw [gR34, ob_s, cV10, d1, cS_l, nI_1]
        have rS2 : ∀ s, RX T L s e X → ∃ s3, lX12_plan_134 N (f3 + 1) 419 (nI (dn X.1)) (mk s) = lX12_plan_134 N f3 419 (nI (dn X1.1)) (mk s3) ∧ RX T L s3 (tkE T L e1) X1 ∧ Fr rF s s3 := fun s hs => by
          obtain ⟨s1, b1, b2, b3⟩ := h2 s hs
          obtain ⟨s3, d1, d2, d3⟩ := r_mk0 (N := N) (c := 59) (x := 59) hN1 hL hT h02 b2.1 rfl (by decide) c
          refine ⟨s3, ?_, ⟨d2, RLn_E b2.2 d3⟩, Fr_t b3 (Fr_m d3 rE_F)⟩
          rw [rS1 s hs, b1]
          unfold bX12_readLine_213
          rw [cV12, d1, cS_l, cS_l, h04]
        match o, ho with
        | .inl (fl, e2), ho =>
          obtain ⟨g0, g1, g2⟩ := ho
          refine ⟨.inl (fl, e2), g0, fun s hs => ?_, fun s hs => ?_⟩
          · obtain ⟨s3, b1, b2, b3⟩ := cS2 s hs
            obtain ⟨s', d1, d2, d3, d4⟩ := g1 s3 b2
            exact ⟨s', b1.trans d1, d2, d3, Fr_t b3 d4⟩
          · obtain ⟨s3, b1, b2, b3⟩ := rS2 s hs
            obtain ⟨s', d1, d2, d3, d4⟩ := g2 s3 b2
            exact ⟨s', b1.trans d1, d2, d3, Fr_t b3 d4⟩
        | .inr (e2, X2), ho =>
          obtain ⟨g0, g1, g2⟩ := ho
          refine ⟨.inr (e2, X2), g0, fun s hs => ?_, fun s hs => ?_⟩
          · obtain ⟨s3, b1, b2, b3⟩ := cS2 s hs
            obtain ⟨s', d1, d2, d4⟩ := g1 s3 b2
            exact ⟨s', b1.trans d1, d2, Fr_t b3 d4⟩
          · obtain ⟨s3, b1, b2, b3⟩ := rS2 s hs
            obtain ⟨s', d1, d2, d4⟩ := g2 s3 b2
            exact ⟨s', b1.trans d1, d2, Fr_t b3 d4⟩
end LLS
/-! how a text begins: nothing is told -/
def pX0 : pX := (fun i => if i = 1 then 240 else if i = 2 then 50 else if i = 3 then 1 else 0, fun _ _ => 0, fun _ => false, fun _ => 0, fun _ => 0)
theorem WX_0 : WX 0 pX0 := by
  refine ⟨by decide, by decide, by decide, by decide, by decide, by decide, by decide, by decide, fun j hj => ?_, fun k hk => ?_, rfl, rfl, fun r hr => ?_⟩
  · show (if 8 + j = 1 then 240 else if 8 + j = 2 then 50 else if 8 + j = 3 then 1 else 0) ≤ 1
    rw [if_neg (by omega), if_neg (by omega), if_neg (by omega)]
    omega
  · exact absurd hk (Nat.not_lt_zero _)
  · exact absurd hr (Nat.not_lt_zero _)
section LBG
variable {N : Nat} {T : Nat → Nat} {L p : Nat} {s : sg}
theorem c_clears (hN1 : 1000 ≤ N) (hp : plA p) : ∃ s', fX3_clears N p (mk s) = some (.inl (), mk s') ∧ (s'.1 p 0 = nI 240 ∧ s'.1 p 1 = nI 50 ∧ s'.1 p 2 = nI 1 ∧ s'.1 p 3 = nI 0 ∧ s'.1 p 4 = nI 0 ∧ s'.1 p 5 = nI 0 ∧ s'.1 (p + 4) 0 = nI 0 ∧ s'.1 (p + 4) 2 = nI 0 ∧ kSky s' (p + 2) (fun _ => false)) ∧ Fr (fun x _ => x = p ∨ x = p + 3 ∨ x = p + 4) s s' := by
  have hp' : p = 2 ∨ p = 18 := hp
  have kp := (plK hp).1
  have k4 := (plK hp).2.1
  have q : ∀ (s : sg) j x, fI 3 j = true → pI (mk s) p 3 j x = some (mk (sI s p j x)) := fun s j x h => pI_k ⟨kp, h, by decide⟩
  have q4 : ∀ (s : sg) j x, fI 4 j = true → pI (mk s) (p + 4) 4 j x = some (mk (sI s (p + 4) j x)) := fun s j x h => pI_k ⟨k4, h, by decide⟩
  have g7 : ∀ s : sg, gR (mk s) p 3 7 = some (p + 2) := fun s => gR_k ⟨kp, rfl, by decide⟩
  generalize hs1 : sI (sI (sI (sI (sI (sI s p 0 240) p 1 50) p 2 1) p 3 0) p 4 0) p 5 0 = s1
  have f1 : Fr (fun x _ => x = p) s s1 := by
    rw [← hs1]
    exact Fr_t (Fr_t (Fr_t (Fr_t (Fr_t (Fr_sI rfl) (Fr_sI rfl)) (Fr_sI rfl)) (Fr_sI rfl)) (Fr_sI rfl)) (Fr_sI rfl)
  obtain ⟨s2, b1, b2, b3⟩ := c_skClear (N := N) (s := s1) hN1 (skP hp)
  have f2 : Fr (fun x j => x = p + 4) s2 (sI (sI s2 (p + 4) 0 0) (p + 4) 2 0) := Fr_t (Fr_sI rfl) (Fr_sI rfl)
  have v : ∀ j, s2.1 p j = s1.1 p j := fun j => b3.1 _ _ (by omega)
  refine ⟨sI (sI s2 (p + 4) 0 0) (p + 4) 2 0, ?_, ⟨?_, ?_, ?_, ?_, ?_, ?_, ?_, ?_, kSky_fr b2 f2 (fun j => by omega)⟩, Fr_t (Fr_m f1 (by intro x j z; omega)) (Fr_t (Fr_m b3 (by intro x j z; omega)) (Fr_m f2 (by intro x j z; omega)))⟩
  · unfold fX3_clears bX3_clears_0 fX4_clears bX4_clears_0
    rw [q _ 0 _ rfl, ob_s, q _ 1 _ rfl, ob_s, q _ 2 _ rfl, ob_s, q _ 3 _ rfl, ob_s, q _ 4 _ rfl, ob_s, q _ 5 _ rfl, ob_s, hs1, g7, ob_s, cV_k ⟨(skP hp).1, by decide⟩, b1, cS_l, gR38 hp, ob_s, cV44 hp, q4 _ 0 _ rfl, ob_s, q4 _ 2 _ rfl, ob_s, cS_l]
  · rw [f2.1 _ _ (by omega), v, ← hs1]; simp only [sI_1]; simp; rfl
  · rw [f2.1 _ _ (by omega), v, ← hs1]; simp only [sI_1]; simp; rfl
  · rw [f2.1 _ _ (by omega), v, ← hs1]; simp only [sI_1]; simp; rfl
  · rw [f2.1 _ _ (by omega), v, ← hs1]; simp only [sI_1]; simp; rfl
  · rw [f2.1 _ _ (by omega), v, ← hs1]; simp only [sI_1]; simp; rfl
  · rw [f2.1 _ _ (by omega), v, ← hs1]; simp only [sI_1]; simp; rfl
  · rw [sI_1, if_neg (by omega), sI_at]; rfl
  · rw [sI_at]; rfl
theorem cby_f : ∀ v, v < 256 → fits .byte (.int (cby v)) = true := by decide +kernel
theorem c_beginsT {tl n : Nat} (hN1 : 1000 ≤ N) (htl : tl ≤ 700) (hn : n ≤ tl) (hT : ∀ j, j < tl → T j < 256) (h : ∀ j, j < tl → s.1 1 j = cby (T j)) : ∃ s', fX10_begins N 35 1 (nI n) (mk s) = some (.inl (), mk s') ∧ TxC s' n T ∧ TkC s' (tkK T n 0) (tkA T n 0) (tkE T n 0) ∧ Fr (fun x _ => x = 35 ∨ x = 36) s s' := by
  have hl : aN (mk s) 1 = some (nI 700) := by rw [aN_k (Or.inr (Or.inl rfl))]; rfl
  have e1 : mxI (0 : Int32) (mnI (nI n) (mnI (nI 700) (700 : Int32))) = nI n := by
    have m1 : mnI (nI 700) (700 : Int32) = nI 700 := by decide
    have m2 := mn_nI (a := n) (b := 700) (by omega) (by omega)
    have m3 := mx_nI (a := 0) (b := n) (by omega) (by omega)
    rw [m1, m2, show min n 700 = n by omega]
    rw [show max 0 n = n by omega] at m3
    exact m3
  generalize hs1 : sI s 35 3 (nI n) = s1
  have f1 : Fr (fun x _ => x = 35 ∨ x = 36) s s1 := by rw [← hs1]; exact Fr_sI (Or.inl rfl)
  have k3 : s1.1 35 3 = nI n := by rw [← hs1, sI_at]
  have k1 : ∀ j, j < tl → s1.1 1 j = cby (T j) := fun j hj => by rw [← hs1, sI_1, if_neg (by omega)]; exact h j hj
  have hcp := cpA_mk (s := s1) (a0 := 1) (a1 := 36) (sp := 0) (dp := 0) (m := nI n) (n0 := 700) (n1 := 700) (ci := 21) (ty := .byte) rfl rfl (Or.inr ⟨rfl, rfl⟩) (by decide) (by decide) (nI_nlt (b := 0) (Nat.zero_le _) (by omega)) (by rw [nI_clamp (by omega)]; show 0 + n ≤ 700; omega) (by rw [nI_clamp (by omega)]; show 0 + n ≤ 700; omega) (fun i hi => by
    rw [nI_clamp (by omega)] at hi
    have : s1.1 1 ((0 : Int32).toNatClampNeg + i) = cby (T i) := by
      rw [show (0 : Int32).toNatClampNeg + i = i from Nat.zero_add i]
      exact k1 i (by omega)
    rw [this]
    exact cby_f _ (hT i (by omega)))
  rw [nI_clamp (by omega)] at hcp
  generalize hs2 : sA s1 36 (va_cpy (s1.1 1) (s1.1 36) (0 : Int32).toNatClampNeg (0 : Int32).toNatClampNeg n) = s2 at hcp
  have f2 : Fr (fun x _ => x = 35 ∨ x = 36) s1 s2 := by rw [← hs2]; exact Fr_sA (fun j => Or.inr rfl)
  have t3 : TxC (sI s2 35 4 0) n T := ⟨by rw [sI_1, if_neg (by omega), ← hs2, sA_1, if_neg (by omega)]; exact k3, fun j hj => by
    rw [sI_1, if_neg (by omega), ← hs2, sA_1, if_pos rfl]
    unfold va_cpy
    rw [show (0 : Int32).toNatClampNeg = 0 from rfl, if_pos (by omega), show 0 + (j - 0) = j by omega]
    exact k1 j (by omega)⟩
  obtain ⟨s', b1, b2, b3, b4⟩ := c_adv (N := N) (s := sI s2 35 4 0) hN1 (show n ≤ 700 by omega) (fun j hj => hT j (by omega)) t3 (Nat.zero_le _) (sI_at _ _ _ _)
  refine ⟨s', ?_, b3, b2, Fr_t f1 (Fr_t f2 (Fr_t (Fr_sI (Or.inl rfl)) (Fr_m b4 (fun x j z => Or.inl z.1))))⟩
  unfold fX10_begins bX10_begins_0
  rw [hl, ob_s, e1, pI10 3 rfl, ob_s, hs1, gR10, ob_s, gI10 3 rfl, ob_s, k3, hcp, ob_s, pI10 4 rfl, ob_s, cV10, b1, cS_l]
end LBG
