/- needs: 73.loops -/
/-! tests, nots, expressions -/
def ntQ (Q : Nat → Int32) (k : Nat) : Nat → (Nat → Int32)
  | 0 => Q
  | m + 1 => up1 (ntQ Q k m) (k + m) (-28)
theorem ntQ_s (Q : Nat → Int32) (k m : Nat) : ntQ Q k (m + 1) = up1 (ntQ Q k m) (k + m) (-28) := rfl
theorem ntQ_lo (Q : Nat → Int32) (k : Nat) : ∀ m j, j < k → ntQ Q k m j = Q j
  | 0, _, _ => rfl
  | m + 1, j, h => by rw [ntQ_s, up1_ne _ _ (by omega), ntQ_lo Q k m j h]
theorem WL_nt {Q : Nat → Int32} {k0 k d : Nat} (h : WL Q k0 k d) (hk : k0 ≤ k) : ∀ m, WL (ntQ Q k m) k0 (k + m) d
  | 0 => h
  | m + 1 => by
    rw [ntQ_s]
    exact WL_not (WL_nt h hk m) (by omega)
section LE
variable {N : Nat} {T : Nat → Nat} {L p a d : Nat} {eC eR : Nat → Int32 → mm_C → mR Unit}
theorem c_nt63 (hp : plA p) {e k n : Nat} {Q : Nat → Int32} (hn : k + n ≤ 700) : ∀ (f i : Nat) (s : sg), n - i < f → i ≤ n → CPs T L p s e (k + i) (ntQ Q k i) → ∃ s', lX2_readsNot_63 N eC f 34 (nI n) (nI i) (mk s) = some (.inl (), mk s') ∧ CPs T L p s' e (k + n) (ntQ Q k n) ∧ Fr (cE p) s s' := by
  intro f
  induction f with
  | zero => intro i s h; omega
  | succ f ih =>
    intro i s hf hi h
    show ∃ s', bX2_readsNot_63 N eC (lX2_readsNot_63 N eC f) 34 (nI n) (nI i) (mk s) = _ ∧ _
    unfold bX2_readsNot_63
    by_cases c : n ≤ i
    · have : i = n := by omega
      subst this
      rw [if_pos (nI_le c (by omega))]
      exact ⟨s, rfl, h, Fr_r _ _⟩
    · obtain ⟨s3, b1, b2, b3⟩ := c_emit (N := N) hp (show k + i < 700 by omega) h (g := -28) (x := -13) rfl
      obtain ⟨s', d1, d2, d3⟩ := ih (i + 1) s3 (by omega) (by omega) b2
      refine ⟨s', ?_, d2, Fr_t b3 d3⟩
      rw [if_neg (nI_ge (by omega) (by omega)), gR34p, ob_s, h.1, gR38 hp, ob_s, cV44 hp, b1, cS_l, nI_1, d1]
theorem r_nt95 {e k n : Nat} {Q : Nat → Int32} (hn : k + n ≤ 700) : ∀ (f i : Nat) (s : sg), n - i < f → i ≤ n → RPs T L s e (k + i) (ntQ Q k i) → ∃ s', lX12_readNot_95 N eR f 419 (nI n) (nI i) (mk s) = some (.inl (), mk s') ∧ RPs T L s' e (k + n) (ntQ Q k n) ∧ Fr rE s s' := by
  intro f
  induction f with
  | zero => intro i s h; omega
  | succ f ih =>
    intro i s hf hi h
    show ∃ s', bX12_readNot_95 N eR (lX12_readNot_95 N eR f) 419 (nI n) (nI i) (mk s) = _ ∧ _
    unfold bX12_readNot_95
    by_cases c : n ≤ i
    · have : i = n := by omega
      subst this
      rw [if_pos (nI_le c (by omega))]
      exact ⟨s, rfl, h, Fr_r _ _⟩
    · obtain ⟨s3, b1, b2, b3⟩ := r_lay (N := N) (show k + i < 700 by omega) h (-28)
      obtain ⟨s', d1, d2, d3⟩ := ih (i + 1) s3 (by omega) (by omega) b2
      refine ⟨s', ?_, d2, Fr_t b3 d3⟩
      rw [if_neg (nI_ge (by omega) (by omega)), cV12, b1, cS_l, nI_1, d1]
theorem rb_nt95 {n : Nat} (hn : n ≤ 700) {s : sg} (hb : ¬ s.1 419 23 = 0) : ∀ (f i : Nat), n - i < f → i ≤ n → lX12_readNot_95 N eR f 419 (nI n) (nI i) (mk s) = some (.inl (), mk s) := by
  intro f
  induction f with
  | zero => intro i h; omega
  | succ f ih =>
    intro i hf hi
    show bX12_readNot_95 N eR (lX12_readNot_95 N eR f) 419 (nI n) (nI i) (mk s) = _
    unfold bX12_readNot_95
    by_cases c : n ≤ i
    · rw [if_pos (nI_le c (by omega))]
    · rw [if_neg (nI_ge (by omega) (by omega)), cV12, rb_lay hb, cS_l, nI_1, ih (i + 1) (by omega) (by omega)]
theorem rb_93 (hN1 : 1000 ≤ N) {n : Nat} (hn : n ≤ 700) {s : sg} (hb : ¬ s.1 419 23 = 0) : bX12_readNot_93 N eR 419 (nI n) (mk s) = some (.inl (), mk s) :=
  rb_nt95 hn hb N 0 (by omega) (by omega)
theorem rb_prod (hN1 : 1000 ≤ N) {s : sg} (hb : ¬ s.1 419 23 = 0) : fX12_readProduct N eR 419 (nI a) (mk s) = some (.inl (), mk s) := by
  obtain ⟨N2, hN2⟩ : ∃ N2, N = N2 + 1 := ⟨N - 1, by omega⟩
  have r0 : lX12_readProduct_5 N eR N 419 (nI a) (mk s) = some (.inl (), mk s) := by
    rw [show lX12_readProduct_5 N eR N = lX12_readProduct_5 N eR (N2 + 1) by rw [← hN2], rProduct_b N2 s hb]
  unfold fX12_readProduct bX12_readProduct_0
  rw [cV12, rb_part hb, cS_l, r0]
theorem rb_sum (hN1 : 1000 ≤ N) {s : sg} (hb : ¬ s.1 419 23 = 0) : fX12_readSum N eR 419 (nI a) (mk s) = some (.inl (), mk s) := by
  obtain ⟨N2, hN2⟩ : ∃ N2, N = N2 + 1 := ⟨N - 1, by omega⟩
  have r0 : lX12_readSum_5 N eR N 419 (nI a) (mk s) = some (.inl (), mk s) := by
    rw [show lX12_readSum_5 N eR N = lX12_readSum_5 N eR (N2 + 1) by rw [← hN2], rSum_b N2 s hb]
  unfold fX12_readSum bX12_readSum_0
  rw [cV12, rb_prod hN1 hb, cS_l, r0]
theorem rb_n2 (hN1 : 1000 ≤ N) {n : Nat} (hn : n ≤ 700) {s : sg} (hb : ¬ s.1 419 23 = 0) (f : Nat) : lX12_readNot_2 N eR (f + 1) 419 (nI a) (nI n) (mk s) = some (.inl (), mk s) := by
  show bX12_readNot_2 N eR (lX12_readNot_2 N eR f) 419 (nI a) (nI n) (mk s) = _
  unfold bX12_readNot_2 bX12_readNot_39
  rw [cV12, r_isb hN1 hb, cS_l, if_pos rfl, cV12, rb_sum hN1 hb, cS_l, cV12, r_isMdb hb, cS_l, if_neg (fun z => z rfl), cV12, r_isMdb hb, cS_l, if_pos rfl, rb_93 hN1 hn hb]
theorem rb_and (hN1 : 1000 ≤ N) {s : sg} (hb : ¬ s.1 419 23 = 0) : fX12_readAnd N eR 419 (nI a) (mk s) = some (.inl (), mk s) := by
  obtain ⟨N2, hN2⟩ : ∃ N2, N = N2 + 1 := ⟨N - 1, by omega⟩
  have r0 : lX12_readAnd_5 N eR N 419 (nI a) (mk s) = some (.inl (), mk s) := by
    rw [show lX12_readAnd_5 N eR N = lX12_readAnd_5 N eR (N2 + 1) by rw [← hN2], rAnd_b hN1 N2 s hb]
  have r1 : fX12_readNot N eR 419 (nI a) (mk s) = some (.inl (), mk s) := by
    unfold fX12_readNot bX12_readNot_0
    rw [show lX12_readNot_2 N eR N = lX12_readNot_2 N eR (N2 + 1) by rw [← hN2]]
    exact rb_n2 hN1 (n := 0) (by omega) hb N2
  unfold fX12_readAnd bX12_readAnd_0
  rw [cV12, r1, cS_l, r0]
theorem rb_62 (hN1 : 1000 ≤ N) {s : sg} (hb : ¬ s.1 419 23 = 0) : bX12_readExpression_62 N eR 419 (nI a) (mk s) = some (.inl (), mk s) := by
  obtain ⟨N2, hN2⟩ : ∃ N2, N = N2 + 1 := ⟨N - 1, by omega⟩
  have r0 : lX12_readExpression_67 N eR N 419 (nI a) (mk s) = some (.inl (), mk s) := by
    rw [show lX12_readExpression_67 N eR N = lX12_readExpression_67 N eR (N2 + 1) by rw [← hN2], rOr_b hN1 N2 s hb]
  unfold bX12_readExpression_62
  rw [cV12, rb_and hN1 hb, cS_l, r0]
/-- a test: a sum, perhaps with another one -/
theorem lvTest (hN1 : 1000 ≤ N) (hL : L ≤ 700) (hT : ∀ j, j < L → T j < 256) (hp : plA p) (hF : Lv T L p d (fX2_readsSum N eC 34 (nI a)) (fX12_readSum N eR 419 (nI a))) (v2 : Int32) : ∀ e k Q, e ≤ L → k ≤ e → ∃ o, okO L e k Q (d + 1) o ∧ (may T L e = false → o = .inl (1, e)) ∧ cO T L p (fX2_readsTest N eC 34 (nI a)) e k Q o ∧ rK T L (bX12_readNot_39 N eR 419 (nI a) v2) (bX12_readNot_93 N eR 419 v2) e k Q o := by
  intro e k Q he hk
  obtain ⟨o, p1, p0, p2, p3⟩ := hF e k Q he hk
  match o, p1, p0, p2, p3 with
  | .inl (fl, e2), p1, p0, p2, p3 =>
    have p1' : 1 ≤ fl ∧ fl ≤ 4 ∧ e2 ≤ L := p1
    refine ⟨.inl (fl, e2), p1, p0, fun s hs => ?_, fun s hs => ?_⟩
    · obtain ⟨s3, b1, b2⟩ := p2 s hs
      refine ⟨s3, ?_, b2⟩
      unfold fX2_readsTest bX2_readsTest_0
      rw [cV34, b1, cS_r]
    · obtain ⟨s3, b1, b2, b3⟩ := p3 s hs
      have b1' : fX12_readSum N eR 419 (nI a) (mk s) = some (.inl (), mk s3) := b1
      have hb : ¬ s3.1 419 23 = 0 := by rw [b2]; exact nI_b p1'.1 p1'.2.1
      refine ⟨s3, ?_, b2, b3⟩
      unfold bX12_readNot_39
      rw [cV12, b1', cS_l, cV12, r_isMdb hb, cS_l, if_neg (fun z => z rfl), cV12, r_isMdb hb, cS_l, if_pos rfl]
  | .inr (e1, k1, Q1), p1, p0, p2, p3 =>
    obtain ⟨q1, q2, q3, q4, q5, q6⟩ := p1
    have hm0 : ∀ {o : oT}, may T L e = false → o = .inl (1, e) := fun hm => by
      have := p0 hm
      cases this
    have hE := tkE_le (T := T) q2
    have hA := tkA_le (T := T) q2
    -- with a second sum
    have two : ∀ (g : Int32) (r : Int32), opq g → ¬ tkK T L e1 = 0 → (∀ s, CPs T L p s e1 k1 Q1 → (cS (some (.inl (), mk s)) fun (_ : Unit) c1 => Option.bind (gR c1 34 2 2) fun x2 => cV 10 x2 c1 (fX10_isSign N x2 (60 : Int32) c1) fun r3 c4 => if ¬ r3 = 0 then (bX2_readsTest_31 N eC 34 (nI a) r3 c4) else (Option.bind (gR c4 34 2 2) fun x5 => cV 10 x5 c4 (fX10_isSign N x5 (61 : Int32) c4) fun r6 c7 => if r6 = 0 then (some (.inl (), c7)) else (bX2_readsTest_31 N eC 34 (nI a) r3 c7))) = bX2_readsTest_31 N eC 34 (nI a) r (mk s)) → (∀ (x : Nat) (c : mm_C), (if r = 0 then (bX2_readsTest_61 N eC x (-15 : Int32) c) else (bX2_readsTest_61 N eC x (-14 : Int32) c)) = bX2_readsTest_61 N eC x (trc g) c) → (∀ s, RPs T L s e1 k1 Q1 → (cS (some (.inl (), mk s)) fun (_ : Unit) c1 => cV 12 419 c1 (fX12_isMarked N 419 (60 : Int32) c1) fun r2 c3 => if ¬ r2 = 0 then (bX12_readNot_62 N eR 419 (nI a) v2 c3) else (cV 12 419 c3 (fX12_isMarked N 419 (61 : Int32) c3) fun r4 c5 => if r4 = 0 then (bX12_readNot_93 N eR 419 v2 c5) else (bX12_readNot_62 N eR 419 (nI a) v2 c5))) = bX12_readNot_78 N eR 419 (nI a) v2 g (mk s)) → ∃ o, okO L e k Q (d + 1) o ∧ (may T L e = false → o = .inl (1, e)) ∧ cO T L p (fX2_readsTest N eC 34 (nI a)) e k Q o ∧ rK T L (bX12_readNot_39 N eR 419 (nI a) v2) (bX12_readNot_93 N eR 419 v2) e k Q o := by
      intro g r hg hkk hC hr hR
      have hA2 := tkK_A hkk
      have hE2 := tkE_gt q2 hkk
      obtain ⟨o, u1, _, u2, u3⟩ := hF (tkE T L e1) k1 Q1 hE.2 (by omega)
      match o, u1, u2, u3 with
      | .inl (fl, e2), u1, u2, u3 =>
        have u1' : 1 ≤ fl ∧ fl ≤ 4 ∧ e2 ≤ L := u1
        refine ⟨.inl (fl, e2), u1, hm0, fun s hs => ?_, fun s hs => ?_⟩
        · obtain ⟨s1, w1, w2, w3⟩ := p2 s hs
          obtain ⟨s2, a1, a2, a3⟩ := CPs_adv (N := N) hN1 hL hT hp q2 w2
          obtain ⟨s3, b1, b2, b3, b4⟩ := u2 s2 a2
          refine ⟨s3, ?_, b2, b3, Fr_t w3 (Fr_t a3 b4)⟩
          unfold fX2_readsTest bX2_readsTest_0
          rw [cV34, w1, hC s1 w2]
          unfold bX2_readsTest_31
          rw [gR34, ob_s, cV10, a1, cS_l, cV34, b1, cS_r]
        · obtain ⟨s1, w1, w2, w3⟩ := p3 s hs
          have w1' : fX12_readSum N eR 419 (nI a) (mk s) = some (.inl (), mk s1) := w1
          obtain ⟨s2, a1, a2, a3⟩ := RPs_step (N := N) hN1 hL hT q2 w2
          obtain ⟨s3, b1, b2, b3, b4⟩ := u3 s2 a2
          have b1' : fX12_readSum N eR 419 (nI a) (mk s2) = some (.inl (), mk s3) := b1
          have hb : ¬ s3.1 419 23 = 0 := by rw [b2]; exact nI_b u1'.1 u1'.2.1
          refine ⟨s3, ?_, b2, b3, Fr_t w3 (Fr_t a3 b4)⟩
          unfold bX12_readNot_39
          rw [cV12, w1', hR s1 w2]
          unfold bX12_readNot_78
          rw [cV12, a1, cS_l, cV12, b1', cS_l, cV12, rb_lay hb, cS_l]
      | .inr (e2, k2, Q2), u1, u2, u3 =>
        obtain ⟨t1, t2, t3, t4, t5, t6⟩ := u1
        refine ⟨.inr (e2, k2 + 1, up1 Q2 k2 g), ⟨by omega, t2, by omega, by omega, fun j hj => (up1_ne Q2 g (by omega)).trans ((t5 j (by omega)).trans (q5 j hj)), WL_bin q6 t6 t5 hg (by omega) (Nat.le_refl _) (by omega) (by omega)⟩, hm0, fun s hs => ?_, fun s hs => ?_⟩
        · obtain ⟨s1, w1, w2, w3⟩ := p2 s hs
          obtain ⟨s2, a1, a2, a3⟩ := CPs_adv (N := N) hN1 hL hT hp q2 w2
          obtain ⟨s3, b1, b2, b3⟩ := u2 s2 a2
          obtain ⟨s4, d1, d2, d3⟩ := c_emit (N := N) hp (by omega) b2 (g := g) rfl
          refine ⟨s4, ?_, d2, Fr_t w3 (Fr_t a3 (Fr_t b3 d3))⟩
          unfold fX2_readsTest bX2_readsTest_0
          rw [cV34, w1, hC s1 w2]
          unfold bX2_readsTest_31
          rw [gR34, ob_s, cV10, a1, cS_l, cV34, b1, cS_l, gR34p, ob_s, b2.1, gR38 hp, ob_s, hr]
          unfold bX2_readsTest_61
          rw [cV44 hp, d1, cS_l]
        · obtain ⟨s1, w1, w2, w3⟩ := p3 s hs
          have w1' : fX12_readSum N eR 419 (nI a) (mk s) = some (.inl (), mk s1) := w1
          obtain ⟨s2, a1, a2, a3⟩ := RPs_step (N := N) hN1 hL hT q2 w2
          obtain ⟨s3, b1, b2, b3⟩ := u3 s2 a2
          have b1' : fX12_readSum N eR 419 (nI a) (mk s2) = some (.inl (), mk s3) := b1
          obtain ⟨s4, d1, d2, d3⟩ := r_lay (N := N) (by omega) b2 g
          refine ⟨s4, ?_, d2, Fr_t w3 (Fr_t a3 (Fr_t b3 d3))⟩
          unfold bX12_readNot_39
          rw [cV12, w1', hR s1 w2]
          unfold bX12_readNot_78
          rw [cV12, a1, cS_l, cV12, b1', cS_l, cV12, d1, cS_l]
    cases c1 : isS T L e1 60 with
    | true =>
      refine two (-24) 1 (by unfold opq; decide) (by have := of_decide_eq_true c1; omega) (fun s hs => ?_) (fun x c => ?_) (fun s hs => ?_)
      · rw [cS_l, gR34, ob_s, cV10, c_sgn (c := 60) (x := 60) hL hT hs rfl (by decide), cS_l, c1, if_pos (by decide)]
        rfl
      · rw [if_neg (by decide)]
        rfl
      · rw [cS_l, cV12, r_sgn (c := 60) (x := 60) hL hT hs rfl (by decide), cS_l, c1, if_pos (by decide)]
        unfold bX12_readNot_62
        rw [cV12, r_sgn (c := 60) (x := 60) hL hT hs rfl (by decide), cS_l, c1, if_neg (by decide)]
    | false =>
      cases c2 : isS T L e1 61 with
      | true =>
        refine two (-25) 0 (by unfold opq; decide) (by have := of_decide_eq_true c2; omega) (fun s hs => ?_) (fun x c => ?_) (fun s hs => ?_)
        · rw [cS_l, gR34, ob_s, cV10, c_sgn (c := 60) (x := 60) hL hT hs rfl (by decide), cS_l, c1, if_neg (fun z => z rfl), gR34, ob_s, cV10, c_sgn (c := 61) (x := 61) hL hT hs rfl (by decide), cS_l, c2, if_neg (by decide)]
          rfl
        · rw [if_pos rfl]
          rfl
        · rw [cS_l, cV12, r_sgn (c := 60) (x := 60) hL hT hs rfl (by decide), cS_l, c1, if_neg (fun z => z rfl), cV12, r_sgn (c := 61) (x := 61) hL hT hs rfl (by decide), cS_l, c2, if_neg (by decide)]
          unfold bX12_readNot_62
          rw [cV12, r_sgn (c := 60) (x := 60) hL hT hs rfl (by decide), cS_l, c1, if_pos (by decide)]
      | false =>
        refine ⟨.inr (e1, k1, Q1), ⟨q1, q2, q3, q4, q5, WL_mono q6 (by omega)⟩, hm0, fun s hs => ?_, fun s hs => ?_⟩
        · obtain ⟨s1, w1, w2, w3⟩ := p2 s hs
          refine ⟨s1, ?_, w2, w3⟩
          unfold fX2_readsTest bX2_readsTest_0
          rw [cV34, w1, cS_l, gR34, ob_s, cV10, c_sgn (c := 60) (x := 60) hL hT w2 rfl (by decide), cS_l, c1, if_neg (fun z => z rfl), gR34, ob_s, cV10, c_sgn (c := 61) (x := 61) hL hT w2 rfl (by decide), cS_l, c2, if_pos (by decide)]
        · obtain ⟨s1, w1, w2, w3⟩ := p3 s hs
          have w1' : fX12_readSum N eR 419 (nI a) (mk s) = some (.inl (), mk s1) := w1
          refine ⟨s1, ?_, w2, w3⟩
          unfold bX12_readNot_39
          rw [cV12, w1', cS_l, cV12, r_sgn (c := 60) (x := 60) hL hT w2 rfl (by decide), cS_l, c1, if_neg (fun z => z rfl), cV12, r_sgn (c := 61) (x := 61) hL hT w2 rfl (by decide), cS_l, c2, if_pos (by decide)]
/-- no not stands there: the test, and the nots that were read are laid -/
theorem lvNot0 (hN1 : 1000 ≤ N) (hL : L ≤ 700) (hT : ∀ j, j < L → T j < 256) (hp : plA p) (hF : Lv T L p d (fX2_readsSum N eC 34 (nI a)) (fX12_readSum N eR 419 (nI a))) {e0 k : Nat} {Q : Nat → Int32} (hk : k ≤ e0) (n e f fr : Nat) (hn6 : n ≤ 6) (hen : e0 + n ≤ e) (he : e ≤ L) (c0 : isW T L e (sw 5 3 0) = false) : ∃ o, okO L e0 k Q (d + 1) o ∧ (may T L e = false → o = .inl (1, e)) ∧ cO T L p (lX2_readsNot_2 N eC (f + 1) 34 (nI a) (nI n)) e k Q o ∧ rK T L (lX12_readNot_2 N eR (fr + 1) 419 (nI a) (nI n)) kU e k Q o := by
  have cH : ∀ s, CPs T L p s e k Q → lX2_readsNot_2 N eC (f + 1) 34 (nI a) (nI n) (mk s) = bX2_readsNot_56 N eC 34 (nI a) (nI n) (mk s) := fun s hs => by
    show bX2_readsNot_2 N eC (lX2_readsNot_2 N eC f) 34 (nI a) (nI n) (mk s) = _
    unfold bX2_readsNot_2 bX2_readsNot_33
    by_cases c : n = 6
    · rw [if_pos (show (6 : Int32) ≤ nI n from nI_le (a := 6) (by omega) (by omega)), if_neg (fun z => z (show nI n = (6 : Int32) by rw [c]; rfl)), gR34, ob_s, cV10, c_wrd hN1 okW_5 hL hT he hs, cS_l, c0, if_pos (by decide)]
    · rw [if_neg (show ¬ (6 : Int32) ≤ nI n from nI_ge (b := 6) (by omega) (by omega)), gR34, ob_s, cV10, c_wrd hN1 okW_5 hL hT he hs, cS_l, c0, if_pos (by decide), if_pos (nI_ne (c := 6) (x := 6) rfl (by omega) (by omega) c)]
  have rH : ∀ s, RPs T L s e k Q → lX12_readNot_2 N eR (fr + 1) 419 (nI a) (nI n) (mk s) = bX12_readNot_39 N eR 419 (nI a) (nI n) (mk s) := fun s hs => by
    show bX12_readNot_2 N eR (lX12_readNot_2 N eR fr) 419 (nI a) (nI n) (mk s) = _
    unfold bX12_readNot_2
    rw [cV12, r_wrd hN1 okW_5 hL hT he hs, cS_l, c0, if_pos (by decide)]
  obtain ⟨o, p1, p0, p2, p3⟩ := lvTest hN1 hL hT hp hF (nI n) e k Q he (by omega)
  match o, p1, p0, p2, p3 with
  | .inl (fl, e2), p1, p0, p2, p3 =>
    have p1' : 1 ≤ fl ∧ fl ≤ 4 ∧ e2 ≤ L := p1
    refine ⟨.inl (fl, e2), p1, p0, fun s hs => ?_, fun s hs => ?_⟩
    · obtain ⟨s3, b1, b2⟩ := p2 s hs
      refine ⟨s3, ?_, b2⟩
      rw [cH s hs]
      unfold bX2_readsNot_56
      rw [cV34, b1, cS_r]
    · obtain ⟨s3, b1, b2, b3⟩ := p3 s hs
      have hb : ¬ s3.1 419 23 = 0 := by rw [b2]; exact nI_b p1'.1 p1'.2.1
      refine ⟨s3, ?_, b2, b3⟩
      rw [rH s hs, b1, rb_93 hN1 (by omega) hb]
      rfl
  | .inr (e1, k1, Q1), p1, p0, p2, p3 =>
    obtain ⟨q1, q2, q3, q4, q5, q6⟩ := p1
    refine ⟨.inr (e1, k1 + n, ntQ Q1 k1 n), ⟨by omega, q2, by omega, by omega, fun j hj => (ntQ_lo Q1 k1 n j (by omega)).trans (q5 j hj), WL_nt q6 (by omega) n⟩, fun hm => ?_, fun s hs => ?_, fun s hs => ?_⟩
    · have := p0 hm
      cases this
    · obtain ⟨s3, b1, b2, b3⟩ := p2 s hs
      obtain ⟨s', d1, d2, d3⟩ := c_nt63 (N := N) (eC := eC) hp (n := n) (k := k1) (Q := Q1) (e := e1) (by omega) N 0 s3 (by omega) (by omega) b2
      refine ⟨s', ?_, d2, Fr_t b3 d3⟩
      rw [cH s hs]
      unfold bX2_readsNot_56
      rw [cV34, b1, cS_l]
      exact d1
    · obtain ⟨s3, b1, b2, b3⟩ := p3 s hs
      obtain ⟨s', d1, d2, d3⟩ := r_nt95 (N := N) (eR := eR) (n := n) (k := k1) (Q := Q1) (e := e1) (by omega) N 0 s3 (by omega) (by omega) b2
      refine ⟨s', ?_, d2, Fr_t b3 d3⟩
      rw [rH s hs, b1]
      exact d1
theorem lvNot2 (hN1 : 1000 ≤ N) (hL : L ≤ 700) (hT : ∀ j, j < L → T j < 256) (hp : plA p) (hF : Lv T L p d (fX2_readsSum N eC 34 (nI a)) (fX12_readSum N eR 419 (nI a))) {e0 k : Nat} {Q : Nat → Int32} (hk : k ≤ e0) : ∀ (m n e f fr : Nat), 6 - n ≤ m → n ≤ 6 → 7 - n < f → 8 - n < fr → e0 + n ≤ e → e ≤ L → ∃ o, okO L e0 k Q (d + 1) o ∧ (may T L e = false → o = .inl (1, e)) ∧ cO T L p (lX2_readsNot_2 N eC f 34 (nI a) (nI n)) e k Q o ∧ rK T L (lX12_readNot_2 N eR fr 419 (nI a) (nI n)) kU e k Q o := by
  intro m
  induction m with
  | zero =>
    intro n e f fr hm hn6 hf hfr hen he
    have h6 : n = 6 := by omega
    subst h6
    obtain ⟨f2, rfl⟩ : ∃ f2, f = f2 + 1 := ⟨f - 1, by omega⟩
    obtain ⟨f3, rfl⟩ : ∃ f3, fr = f3 + 1 + 1 := ⟨fr - 2, by omega⟩
    cases c0 : isW T L e (sw 5 3 0) with
    | false => exact lvNot0 hN1 hL hT hp hF hk 6 e f2 (f3 + 1) (by omega) hen he c0
    | true =>
      have c1 := (of_decide_eq_true c0).1
      have hmay : may T L e = true := decide_eq_true (Or.inr (Or.inl c1))
      refine ⟨.inl (2, e), ⟨by omega, by omega, he⟩, fun z => (by rw [hmay] at z; cases z), fun s hs => ?_, fun s hs => ?_⟩
      · obtain ⟨s', b1, b2⟩ := c_ref (N := N) hs (f := 2) (x := 2) rfl
        refine ⟨s', ?_, b2⟩
        show bX2_readsNot_2 N eC (lX2_readsNot_2 N eC f2) 34 (nI a) (nI 6) (mk s) = _
        unfold bX2_readsNot_2 bX2_readsNot_33
        rw [if_pos (show (6 : Int32) ≤ nI 6 by decide), if_neg (fun z => z rfl), gR34, ob_s, cV10, c_wrd hN1 okW_5 hL hT he hs, cS_l, c0, if_neg (by decide), cV34, b1, cS_r]
      · obtain ⟨s', b1, b2, b3⟩ := r_wr (N := N) hs (f := 2) (x := 2) rfl
        have hb : ¬ s'.1 419 23 = 0 := by rw [b2]; exact nI_b (by omega) (by omega)
        refine ⟨s', ?_, b2, b3⟩
        show bX12_readNot_2 N eR (lX12_readNot_2 N eR (f3 + 1)) 419 (nI a) (nI 6) (mk s) = _
        unfold bX12_readNot_2 bX12_readNot_22
        rw [cV12, r_wrd hN1 okW_5 hL hT he hs, cS_l, c0, if_neg (by decide), if_neg (fun z => z rfl), cV12, b1, cS_l, gI12 23 rfl, ob_s, if_pos hb, nI_1, rb_n2 hN1 (by omega) hb f3]
        rfl
  | succ m ih =>
    intro n e f fr hm hn6 hf hfr hen he
    obtain ⟨f2, rfl⟩ : ∃ f2, f = f2 + 1 := ⟨f - 1, by omega⟩
    obtain ⟨f3, rfl⟩ : ∃ f3, fr = f3 + 1 := ⟨fr - 1, by omega⟩
    cases c0 : isW T L e (sw 5 3 0) with
    | false => exact lvNot0 hN1 hL hT hp hF hk n e f2 f3 hn6 hen he c0
    | true =>
      by_cases h6 : n = 6
      · exact ih n e (f2 + 1) (f3 + 1) (by omega) hn6 hf hfr hen he
      · have c1 := (of_decide_eq_true c0).1
        have hmay : may T L e = true := decide_eq_true (Or.inr (Or.inl c1))
        have hkk : ¬ tkK T L e = 0 := by omega
        have hA := tkA_le (T := T) he
        have hE := tkE_le (T := T) he
        have hE2 := tkE_gt he hkk
        obtain ⟨o, u1, _, u2, u3⟩ := ih (n + 1) (tkE T L e) f2 f3 (by omega) (by omega) (by omega) (by omega) (by omega) hE.2
        refine ⟨o, u1, fun z => (by rw [hmay] at z; cases z), cO_step (fun s hs => ?_) o u2, rK_step (fun s hs => ?_) o u3⟩
        · obtain ⟨s2, a1, a2, a3⟩ := CPs_adv (N := N) hN1 hL hT hp he hs
          refine ⟨s2, ?_, a2, a3⟩
          show bX2_readsNot_2 N eC (lX2_readsNot_2 N eC f2) 34 (nI a) (nI n) (mk s) = _
          unfold bX2_readsNot_2
          rw [if_neg (show ¬ (6 : Int32) ≤ nI n from nI_ge (b := 6) (by omega) (by omega)), gR34, ob_s, cV10, c_wrd hN1 okW_5 hL hT he hs, cS_l, c0, if_neg (by decide), gR34, ob_s, cV10, a1, cS_l, nI_1]
        · obtain ⟨s2, a1, a2, a3⟩ := RPs_step (N := N) hN1 hL hT he hs
          refine ⟨s2, ?_, a2, a3⟩
          show bX12_readNot_2 N eR (lX12_readNot_2 N eR f3) 419 (nI a) (nI n) (mk s) = _
          unfold bX12_readNot_2 bX12_readNot_22
          rw [cV12, r_wrd hN1 okW_5 hL hT he hs, cS_l, c0, if_neg (by decide), if_pos (nI_ne (c := 6) (x := 6) rfl (by omega) (by omega) h6), gI12 23 rfl, ob_s, hs.2.2.2.1, if_neg (fun z => z rfl), cV12, a1, cS_l, nI_1]
theorem lvNot (hN1 : 1000 ≤ N) (hL : L ≤ 700) (hT : ∀ j, j < L → T j < 256) (hp : plA p) (hF : Lv T L p d (fX2_readsSum N eC 34 (nI a)) (fX12_readSum N eR 419 (nI a))) : Lv T L p (d + 1) (fX2_readsNot N eC 34 (nI a)) (fX12_readNot N eR 419 (nI a)) :=
  fun e k Q he hk => lvNot2 hN1 hL hT hp hF (e0 := e) hk 6 0 e N N (by omega) (by omega) (by omega) (by omega) (by omega) he
end LE
theorem rb_expr {N m : Nat} {x : Int32} {s : sg} (hb : ¬ s.1 419 23 = 0) : fX12_readExpression N (m + 1) 419 x (mk s) = some (.inl (), mk s) := by
  show bX12_readExpression_0 N (fX12_readExpression N m) 419 x (mk s) = _
  unfold bX12_readExpression_0
  rw [gI12 23 rfl, ob_s, if_neg hb]
section LX
variable {N : Nat} {T : Nat → Nat} {L p : Nat}
theorem r_ex0 {eR : Nat → Int32 → mm_C → mR Unit} {e k : Nat} {Q : Nat → Int32} {v1 : Int32} {s : sg} (hL : L ≤ 700) (hT : ∀ j, j < L → T j < 256) (hs : RPs T L s e k Q) : bX12_readExpression_0 N eR 419 v1 (mk s) = bX12_readExpression_38 N eR 419 v1 (sk_i (may T L e)) (mk s) := by
  have h4 := tkK_4 (T := T) (L := L) (e := e)
  unfold bX12_readExpression_0
  rw [gI12 23 rfl, ob_s, hs.2.2.2.1, if_pos rfl, gI12 19 rfl, ob_s, hs.2.1.1]
  by_cases c1 : tkK T L e = 2
  · rw [if_pos (show nI (tkK T L e) = (2 : Int32) by rw [c1]; rfl), show may T L e = true from decide_eq_true (Or.inl c1)]
    rfl
  · rw [if_neg (nI_ne (c := 2) (x := 2) rfl (by omega) (by omega) c1), ob_s]
    by_cases c2 : tkK T L e = 1
    · rw [if_pos (show nI (tkK T L e) = (1 : Int32) by rw [c2]; rfl), show may T L e = true from decide_eq_true (Or.inr (Or.inl c2))]
      rfl
    · rw [if_neg (nI_ne (c := 1) (x := 1) rfl (by omega) (by omega) c2), cV12, r_sgn (c := 40) (x := 40) hL hT hs rfl (by decide), cS_l]
      cases c3 : isS T L e 40 with
      | true =>
        rw [if_neg (by decide), show may T L e = true from decide_eq_true (Or.inr (Or.inr c3))]
        rfl
      | false =>
        rw [if_pos (by decide), show may T L e = false from decide_eq_false (fun z => by rcases z with z | z | z; exact c1 z; exact c2 z; rw [c3] at z; cases z)]
        rfl
theorem c_bgP {e k : Nat} {Q : Nat → Int32} {s : sg} (hL : L ≤ 700) (hT : ∀ j, j < L → T j < 256) (hs : CPs T L p s e k Q) : fX2_beginsPart N 34 (mk s) = some (.inl (sk_i (may T L e)), mk s) := by
  have h4 := tkK_4 (T := T) (L := L) (e := e)
  unfold fX2_beginsPart bX2_beginsPart_0 bX2_beginsPart_34
  rw [gR34, ob_s, gI10 0 rfl, ob_s, hs.2.2.1.1]
  by_cases c1 : tkK T L e = 2
  · rw [if_pos (show nI (tkK T L e) = (2 : Int32) by rw [c1]; rfl), show may T L e = true from decide_eq_true (Or.inl c1)]
    rfl
  · rw [if_neg (nI_ne (c := 2) (x := 2) rfl (by omega) (by omega) c1), ob_s, gI10 0 rfl, ob_s, hs.2.2.1.1]
    by_cases c2 : tkK T L e = 1
    · rw [if_pos (show nI (tkK T L e) = (1 : Int32) by rw [c2]; rfl), show may T L e = true from decide_eq_true (Or.inr (Or.inl c2))]
      rfl
    · rw [if_neg (nI_ne (c := 1) (x := 1) rfl (by omega) (by omega) c2), ob_s, cV10, c_sgn (c := 40) (x := 40) hL hT hs rfl (by decide), cS_l]
      cases c3 : isS T L e 40 with
      | true =>
        rw [if_neg (by decide), show may T L e = true from decide_eq_true (Or.inr (Or.inr c3))]
        rfl
      | false =>
        rw [if_pos (by decide), show may T L e = false from decide_eq_false (fun z => by rcases z with z | z | z; exact c1 z; exact c2 z; rw [c3] at z; cases z)]
        rfl
theorem lvExpr (hN1 : 1000 ≤ N) (hL : L ≤ 700) (hT : ∀ j, j < L → T j < 256) (hp : plA p) : ∀ n m a, n + a = 6 → n < m → Lv T L p (5 * n) (fX2_readsExpr N m 34 (nI a)) (fX12_readExpression N m 419 (nI a))
  | 0, 0, _, _, h => absurd h (by omega)
  | 0, m + 1, a, ha, _ => by
    intro e k Q he hk
    have h6 : a = 6 := by omega
    subst h6
    refine ⟨.inl (if may T L e = true then 2 else 1, e), ⟨?_, ?_, he⟩, fun z => ?_, fun s hs => ?_, fun s hs => ?_⟩
    · split <;> omega
    · split <;> omega
    · rw [z, if_neg (by decide)]
    · show ∃ s', bX2_readsExpr_0 N (fX2_readsExpr N m) 34 (nI 6) (mk s) = _ ∧ _
      unfold bX2_readsExpr_0 bX2_readsExpr_19
      rw [if_neg (show ¬ nI 6 < (6 : Int32) by decide), cV34, c_bgP hL hT hs, cS_l]
      cases c : may T L e with
      | true =>
        obtain ⟨s', b1, b2⟩ := c_ref (N := N) hs (f := 2) (x := 2) rfl
        rw [if_neg (by decide), cV34, b1, cS_r, if_pos rfl]
        exact ⟨s', rfl, b2⟩
      | false =>
        obtain ⟨s', b1, b2⟩ := c_ref (N := N) hs (f := 1) (x := 1) rfl
        rw [if_pos (by decide), cV34, b1, cS_r, if_neg (by decide)]
        exact ⟨s', rfl, b2⟩
    · show ∃ s', bX12_readExpression_0 N (fX12_readExpression N m) 419 (nI 6) (mk s) = _ ∧ _
      rw [r_ex0 hL hT hs]
      unfold bX12_readExpression_38
      cases c : may T L e with
      | true =>
        obtain ⟨s', b1, b2, b3⟩ := r_wr (N := N) hs (f := 2) (x := 2) rfl
        have hb : ¬ s'.1 419 23 = 0 := by rw [b2]; exact nI_b (by omega) (by omega)
        rw [if_pos (by decide), if_neg (fun z => z rfl), cV12, b1, cS_l, rb_62 hN1 hb, if_pos rfl]
        exact ⟨s', rfl, b2, b3⟩
      | false =>
        obtain ⟨s', b1, b2, b3⟩ := r_wr (N := N) hs (f := 1) (x := 1) rfl
        have hb : ¬ s'.1 419 23 = 0 := by rw [b2]; exact nI_b (by omega) (by omega)
        rw [if_neg (fun z => z rfl), cV12, b1, cS_l, rb_62 hN1 hb, if_neg (by decide)]
        exact ⟨s', rfl, b2, b3⟩
  | n + 1, 0, _, _, h => absurd h (by omega)
  | n + 1, m + 1, a, ha, hm => by
    obtain ⟨m2, hm2⟩ : ∃ m2, m = m2 + 1 := ⟨m - 1, by omega⟩
    have hX := lvExpr hN1 hL hT hp n m (a + 1) (by omega) (by omega)
    have Eb : ∀ x (s : sg), ¬ s.1 419 23 = 0 → fX12_readExpression N m 419 x (mk s) = some (.inl (), mk s) := fun x s hb => by rw [hm2]; exact rb_expr hb
    have h5 := lvOr hN1 hL hT hp (lvAnd hN1 hL hT hp (lvNot hN1 hL hT hp (lvSum hN1 hL hT hp (lvProduct hN1 hL hT hp (lvPart hN1 hL hT hp hX Eb)))))
    intro e k Q he hk
    obtain ⟨o, p1, p0, p2, p3⟩ := h5 e k Q he hk
    have cH : ∀ s, fX2_readsExpr N (m + 1) 34 (nI a) (mk s) = bX2_readsExpr_22 N (fX2_readsExpr N m) 34 (nI a) (mk s) := fun s => by
      show bX2_readsExpr_0 N (fX2_readsExpr N m) 34 (nI a) (mk s) = _
      unfold bX2_readsExpr_0
      rw [if_pos (show nI a < (6 : Int32) from nI_lt (b := 6) (by omega) (by omega))]
    refine ⟨o, p1, p0, ?_, ?_⟩
    · exact cO_step (fun s hs => ⟨s, cH s, hs, Fr_r _ _⟩) o p2
    · cases c : may T L e with
      | true =>
        refine rK_step (fun s hs => ⟨s, ?_, hs, Fr_r _ _⟩) o p3
        show bX12_readExpression_0 N (fX12_readExpression N m) 419 (nI a) (mk s) = _
        rw [r_ex0 hL hT hs, c]
        unfold bX12_readExpression_38
        rw [if_pos (by decide), if_pos (nI_ne (c := 6) (x := 6) rfl (by omega) (by omega) (show ¬ a = 6 by omega))]
      | false =>
        rw [p0 c]
        intro s hs
        obtain ⟨s', b1, b2, b3⟩ := r_wr (N := N) hs (f := 1) (x := 1) rfl
        have hb : ¬ s'.1 419 23 = 0 := by rw [b2]; exact nI_b (by omega) (by omega)
        refine ⟨s', ?_, b2, b3⟩
        show bX12_readExpression_0 N (fX12_readExpression N m) 419 (nI a) (mk s) = _
        rw [r_ex0 hL hT hs, c]
        unfold bX12_readExpression_38
        rw [if_neg (fun z => z rfl), cV12, b1, cS_l, rb_62 hN1 hb]
        rfl
end LX
