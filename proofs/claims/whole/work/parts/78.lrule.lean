/- needs: 77.lall -/
/-! a line of a rule, and of a number that is told once -/
theorem WL_cg {Q Q2 : Nat → Int32} {k k1 d : Nat} (h : WL Q k k1 d) (ha : ∀ j, k ≤ j → j < k1 → Q2 j = Q j) : WL Q2 k k1 d := fun Q3 f hh hq h1 h2 => h Q3 f hh (fun j a b => (hq j a b).trans (ha j a b)) h1 h2
section LRU
variable {N : Nat} {T : Nat → Nat} {L p e : Nat} {X : pX}
theorem c_endsRule {s : sg} {nr k : Nat} (hp : plA p) (hn : nr < 4) (h0 : s.1 (p + 4) 0 = nI nr) (h2 : s.1 (p + 4) 2 = nI k) : fX4_endsRule N (p + 4) (mk s) = some (.inl (), mk (sI (sI s (p + 6) nr (nI k)) (p + 4) 0 (nI (nr + 1)))) := by
  have hp' : p = 2 ∨ p = 18 := hp
  have k4 := (plK hp).2.1
  have k6 : kc (p + 6) = 20 ∧ kn (p + 6) = 4 := by
    rcases hp with rfl | rfl <;> exact ⟨rfl, rfl⟩
  have g0 : ∀ s : sg, gI (mk s) (p + 4) 4 0 = some (s.1 (p + 4) 0) := fun s => gI_k ⟨k4, rfl, by decide⟩
  have g2 : gI (mk s) (p + 4) 4 2 = some (s.1 (p + 4) 2) := gI_k ⟨k4, rfl, by decide⟩
  have g3 : gR (mk s) (p + 4) 4 3 = some (p + 6) := gR_k ⟨k4, rfl, by decide⟩
  have e0 : (sI s (p + 6) nr (nI k)).1 (p + 4) 0 = nI nr := by rw [sI_1, if_neg (by omega)]; exact h0
  unfold fX4_endsRule bX4_endsRule_0
  rw [g0, ob_s, h0, if_neg (show ¬ (4 : Int32) ≤ nI nr from nI_ge (b := 4) hn (by omega)), g3, ob_s, ob_s, g2, ob_s, h2, tI_k ⟨k6.1, by rw [k6.2]; exact inA_nI hn (by omega)⟩, ob_s, nI_clamp (by omega), g0, ob_s, e0, nI_1, pI_k ⟨k4, rfl, by decide⟩, ob_s]
theorem t430 {s : sg} {a i : Nat} (ha : a = 430 ∨ a = 431) (hi : i < 8) {x : Int32} : tI (mk s) a (nI i) x = some (mk (sI s a i x)) := by
  have hk : kc a = 20 ∧ kn a = 8 := by
    rcases ha with rfl | rfl <;> exact ⟨rfl, rfl⟩
  have h := tI_k (s := s) (a := a) (i := nI i) (x := x) ⟨hk.1, by rw [hk.2]; exact inA_nI hi (by omega)⟩
  rw [nI_clamp (by omega)] at h
  exact h
theorem lnRule (hN1 : 1000 ≤ N) (hL : L ≤ 700) (hT : ∀ j, j < L → T j < 256) (hp : plA p) (he : e ≤ L) (hk : ¬ tkK T L e = 0) (W : WX e X) : ∃ o, Ln T L p (fX2_readsRule N 34) (fX12_readRule N 419) kU e X (sFl X) o := by
  have hp' : p = 2 ∨ p = 18 := hp
  have k4 := (plK hp).2.1
  obtain ⟨w0, w1, w2, w3, w4, w5, w6, w7, w8, w9, w10, w11, w12⟩ := W
  have hA := tkA_le (T := T) he
  have hE := tkE_le (T := T) he
  have hE2 := tkE_gt he hk
  have g0 : ∀ s : sg, gI (mk s) (p + 4) 4 0 = some (s.1 (p + 4) 0) := fun s => gI_k ⟨k4, rfl, by decide⟩
  have a12 : ∀ s : sg, aI (mk s) 422 (12 : Int32) = some (s.1 422 12) := fun s => a422 (i := 12) (by omega)
  have a14 : ∀ s : sg, aI (mk s) 422 (14 : Int32) = some (s.1 422 14) := fun s => a422 (i := 14) (by omega)
  have t12 : ∀ (s : sg) x, tI (mk s) 422 (12 : Int32) x = some (mk (sI s 422 12 x)) := fun s x => t422 (i := 12) (by omega)
  have e4 : ∀ n : Nat, (4 : Int32) + nI n = nI (4 + n) := fun n => nI_add 4 n
  by_cases c : X.1 4 = 4
  · refine ⟨.inl (2, e), ⟨by omega, by omega, he⟩, fun s hs => ?_, fun s hs => ?_⟩
    · obtain ⟨s', b1, b2, b3, b4⟩ := c_ref (N := N) hs.1 (f := 2) (x := 2) rfl
      refine ⟨s', ?_, b2, b3, Fr_m b4 (cE_F p)⟩
      unfold fX2_readsRule bX2_readsRule_0
      rw [gR34p, ob_s, hs.1.1, gR38 hp, ob_s, g0, ob_s, hs.2.2.2.2.2.2.2.1, c, if_neg (show ¬ nI 4 < (4 : Int32) by decide), cV34, b1, cS_r]
    · obtain ⟨s', b1, b2, b3, b4⟩ := r_an1 (N := N) (i := 4) (m := 4) (x := 4) (y := 4) rfl rfl (by omega) (by rw [hs.2.1 4 (by omega), c]) hs.1
      refine ⟨s', ?_, b2, b3, Fr_m b4 rE_F⟩
      unfold fX12_readRule bX12_readRule_0
      rw [cV12, b1, cS_l, if_neg (fun z => z rfl)]
      rfl
  · have hn4 : X.1 4 < 4 := by omega
    obtain ⟨o, p1, _, p2, p3⟩ := lvExpr (N := N) (p := p) hN1 hL hT hp 6 12 0 (by omega) (by omega) (tkE T L e) (X.1 6) X.2.2.2.2 hE.2 (by omega)
    have cS1 : ∀ s, CX T L p s e X → ∃ s2, CPs T L p s2 (tkE T L e) (X.1 6) X.2.2.2.2 ∧ Fr (cE p) s s2 ∧ fX2_readsRule N 34 (mk s) = cS (fX2_readsExpr N 12 34 (nI 0) (mk s2)) fun (_ : Unit) c3 => Option.bind (gR c3 34 2 3) fun x4 => Option.bind (gR c3 x4 3 8) fun x5 => cV 4 x5 c3 (fX4_endsRule N x5 c3) fun (_ : Unit) c6 => some (.inl (), c6) := by
      intro s hs
      obtain ⟨s2, a1, a2, a3⟩ := CPs_adv (N := N) hN1 hL hT hp he hs.1
      refine ⟨s2, a2, a3, ?_⟩
      unfold fX2_readsRule bX2_readsRule_0 bX2_readsRule_19
      rw [gR34p, ob_s, hs.1.1, gR38 hp, ob_s, g0, ob_s, hs.2.2.2.2.2.2.2.1, if_pos (show nI (X.1 4) < (4 : Int32) from nI_lt (b := 4) hn4 (by omega)), gR34, ob_s, cV10, a1, cS_l, cV34]
      rfl
    have rS1 : ∀ s, RX T L s e X → ∃ s2, RPs T L s2 (tkE T L e) (X.1 6) X.2.2.2.2 ∧ RLn s2 X ∧ s2.1 430 (4 + X.1 4) = nI (X.1 6) ∧ Fr (fun x j => rE x j ∨ (x = 430 ∧ j = 4 + X.1 4)) s s2 ∧ fX12_readRule N 419 (mk s) = cS (fX12_readExpression N 12 419 (nI 0) (mk s2)) fun (_ : Unit) c9 => Option.bind (gR c9 419 12 12) fun x10 => Option.bind (gR c9 419 12 3) fun x11 => Option.bind (aI c9 x11 (14 : Int32)) fun x12 => Option.bind (tI c9 x10 (nI (4 + X.1 4)) x12) fun c13 => Option.bind (gR c13 419 12 3) fun x14 => Option.bind (aI c13 x14 (12 : Int32)) fun x15 => Option.bind (tI c13 x14 (12 : Int32) (x15 + (1 : Int32))) fun c16 => some (.inl (), c16) := by
      intro s hs
      obtain ⟨s2, a1, a2, a3⟩ := r_an0 (N := N) (i := 4) (m := 4) (v := X.1 4) (x := 4) (y := 4) hN1 hL hT he rfl rfl (by omega) (hs.2.1 4 (by omega)) (by omega) (by omega) c hs.1
      have l2 := RLn_E hs.2 a3
      have k12 : s2.1 422 12 = nI (X.1 4) := l2.1 4 (by omega)
      have f4 : Fr (fun x j => x = 430 ∧ j = 4 + X.1 4) s2 (sI s2 430 (4 + X.1 4) (nI (X.1 6))) := Fr_sI ⟨rfl, rfl⟩
      refine ⟨sI s2 430 (4 + X.1 4) (nI (X.1 6)), RPs_o a2 f4 (by intro x j q; omega), ?_, sI_at _ _ _ _, Fr_t (Fr_m a3 (fun x j q => Or.inl q)) (Fr_m f4 (fun x j q => Or.inr q)), ?_⟩
      · obtain ⟨l1, l3, l4, l5, l6⟩ := l2
        exact ⟨fun i hi => (f4.1 _ _ (by omega)).trans (l1 i hi), (f4.1 _ _ (by omega)).trans l3, fun f k f1 f2 hk => (f4.1 _ _ (by omega)).trans (l4 f k f1 f2 hk), fun m hm => (f4.1 _ _ (by omega)).trans (l5 m hm), fun i hi => ⟨(f4.1 _ _ (by omega)).trans (l6 i hi).1, (f4.1 _ _ (by omega)).trans (l6 i hi).2⟩⟩
      · unfold fX12_readRule bX12_readRule_0
        rw [cV12, a1, cS_l, if_pos (by decide), gR12 3 422 rfl rfl, ob_s, a12, ob_s, k12, e4, gR12 11 430 rfl rfl, ob_s, ob_s, a14, ob_s, a2.2.2.2.2.1, t430 (Or.inl rfl) (by omega), ob_s, cV12]
        rfl
    match o, p1, p2, p3 with
    | .inl (f, e1), p1, p2, p3 =>
      have p1' : 1 ≤ f ∧ f ≤ 4 ∧ e1 ≤ L := p1
      refine ⟨.inl (f, e1), p1', fun s hs => ?_, fun s hs => ?_⟩
      · obtain ⟨s2, a1, a2, a3⟩ := cS1 s hs
        obtain ⟨s3, b1, b2, b3, b4⟩ := p2 s2 a1
        exact ⟨s3, by rw [a3, b1, cS_r], b2, b3, Fr_t (Fr_m a2 (cE_F p)) (Fr_m b4 (cE_F p))⟩
      · obtain ⟨s2, a1, a2, a3, a4, a5⟩ := rS1 s hs
        obtain ⟨s3, b1, b2, b3, b4⟩ := p3 s2 a1
        have b1' : fX12_readExpression N 12 419 (nI 0) (mk s2) = some (.inl (), mk s3) := b1
        have k12 : s3.1 422 12 = nI (X.1 4) := (b4.1 _ _ (by unfold rE; omega)).trans (a2.1 4 (by omega))
        have k12' : (sI s3 431 (4 + X.1 4) (s3.1 422 14)).1 422 12 = nI (X.1 4) := by rw [sI_1, if_neg (by omega)]; exact k12
        refine ⟨sI (sI s3 431 (4 + X.1 4) (s3.1 422 14)) 422 12 (nI (X.1 4 + 1)), ?_, ?_, ?_, Fr_t (Fr_m a4 ?_) (Fr_t (Fr_m b4 rE_F) (Fr_t (Fr_sI (by unfold rF; omega)) (Fr_sI (by unfold rF; omega))))⟩
        · rw [a5, b1', cS_l, gR12 12 431 rfl rfl, ob_s, gR12 3 422 rfl rfl, ob_s, a14, ob_s, t430 (Or.inr rfl) (by omega), ob_s, gR12 3 422 rfl rfl, ob_s, a12, ob_s, k12', nI_1, t12, ob_s]
          rfl
        · rw [sI_1, if_neg (by omega), sI_1, if_neg (by omega)]; exact b2
        · rw [sI_1, if_neg (by omega), sI_1, if_neg (by omega)]; exact b3
        · intro x j q
          rcases q with q | q
          · exact rE_F x j q
          · unfold rF; omega
    | .inr (e1, k1, Q1), p1, p2, p3 =>
      obtain ⟨q1, q2, q3, q4, q5, q6⟩ := p1
      have V4 : upN (upN X.1 4 (X.1 4 + 1)) 6 k1 4 = X.1 4 + 1 := by rw [upN_ne _ _ (by omega), upN_at]
      have V6 : upN (upN X.1 4 (X.1 4 + 1)) 6 k1 6 = k1 := upN_at _ _ _
      have Vo : ∀ i, ¬ i = 4 → ¬ i = 6 → upN (upN X.1 4 (X.1 4 + 1)) 6 k1 i = X.1 i := fun i h1 h2 => by rw [upN_ne _ _ h2, upN_ne _ _ h1]
      refine ⟨.inr (e1, (upN (upN X.1 4 (X.1 4 + 1)) 6 k1, X.2.1, X.2.2.1, upN X.2.2.2.1 (X.1 4 + 1) k1, Q1)), ⟨by omega, q2, ?_, fun i hi => Vo _ (by omega) (by omega)⟩, fun s hs => ?_, fun s hs => ?_⟩
      · refine ⟨w0, w1, w2, w3, ?_, w5, ?_, w7, fun j hj => (by
          show upN (upN X.1 4 (X.1 4 + 1)) 6 k1 (8 + j) ≤ 1
          rw [Vo _ (by omega) (by omega)]
          exact w8 j hj), w9, ?_, ?_, fun r hr => ?_⟩
        · show upN (upN X.1 4 (X.1 4 + 1)) 6 k1 4 ≤ 4
          omega
        · show upN (upN X.1 4 (X.1 4 + 1)) 6 k1 6 ≤ e1
          omega
        · show upN X.2.2.2.1 (X.1 4 + 1) k1 0 = 0
          rw [upN_ne _ _ (by omega)]; exact w10
        · show upN X.2.2.2.1 (X.1 4 + 1) k1 (upN (upN X.1 4 (X.1 4 + 1)) 6 k1 4) = upN (upN X.1 4 (X.1 4 + 1)) 6 k1 6
          rw [V4, V6, upN_at]
        · have hr' : r < X.1 4 + 1 := by rw [← V4]; exact hr
          show upN X.2.2.2.1 (X.1 4 + 1) k1 r ≤ upN X.2.2.2.1 (X.1 4 + 1) k1 (r + 1) ∧ upN X.2.2.2.1 (X.1 4 + 1) k1 (r + 1) ≤ upN (upN X.1 4 (X.1 4 + 1)) 6 k1 6 ∧ WL Q1 (upN X.2.2.2.1 (X.1 4 + 1) k1 r) (upN X.2.2.2.1 (X.1 4 + 1) k1 (r + 1)) 30
          rw [V6, upN_ne _ _ (show ¬ r = X.1 4 + 1 by omega)]
          by_cases c2 : r = X.1 4
          · rw [c2, upN_at, w11]
            exact ⟨by omega, Nat.le_refl _, q6⟩
          · obtain ⟨v1, v2, v3⟩ := w12 r (by omega)
            rw [upN_ne _ _ (show ¬ r + 1 = X.1 4 + 1 by omega)]
            exact ⟨v1, by omega, WL_cg v3 (fun j g1 g2 => q5 j (by omega))⟩
      · obtain ⟨s2, a1, a2, a3⟩ := cS1 s hs
        obtain ⟨s3, b1, b2, b3⟩ := p2 s2 a1
        have l3 := CL_E hp w0 (CL_E hp w0 hs.2 a2) b3
        have he3 := c_endsRule (N := N) (s := s3) hp hn4 l3.2.2.2.2.2.2.1 b2.2.2.2.1
        have f4 : Fr (fun x j => (x = p + 6 ∧ j = X.1 4) ∨ (x = p + 4 ∧ j = 0)) s3 (sI (sI s3 (p + 6) (X.1 4) (nI k1)) (p + 4) 0 (nI (X.1 4 + 1))) := Fr_t (Fr_sI (by omega)) (Fr_sI (by omega))
        refine ⟨sI (sI s3 (p + 6) (X.1 4) (nI k1)) (p + 4) 0 (nI (X.1 4 + 1)), ?_, ⟨?_, ?_⟩, Fr_t (Fr_m a2 (cE_F p)) (Fr_t (Fr_m b3 (cE_F p)) (Fr_m f4 (by intro x j q; unfold cF; omega)))⟩
        · rw [a3, b1, cS_l, gR34p, ob_s, b2.1, gR38 hp, ob_s, cV44 hp, he3, cS_l]
        · have := CPs_o b2 f4 (by intro x j q; omega)
          show CPs T L p _ e1 (upN (upN X.1 4 (X.1 4 + 1)) 6 k1 6) Q1
          rw [V6]; exact this
        · obtain ⟨h1, h2, h3, h4, h5, h6, h7, h8, h9, h10, h11⟩ := l3
          refine ⟨(f4.1 _ _ (by omega)).trans h1, (f4.1 _ _ (by omega)).trans h2, (f4.1 _ _ (by omega)).trans h3, (f4.1 _ _ (by omega)).trans h4, (f4.1 _ _ (by omega)).trans h5, (f4.1 _ _ (by omega)).trans h6, ?_, fun j hj => ?_, fun k hk => ShAt_o (h9 k hk) f4 (fun j => by omega), kSky_fr h10 f4 (fun j => by omega), fun i hi => ?_⟩
          · show _ = nI (upN (upN X.1 4 (X.1 4 + 1)) 6 k1 4)
            rw [V4, sI_at]
          · show _ = nI (upN (upN X.1 4 (X.1 4 + 1)) 6 k1 (8 + j))
            rw [Vo _ (by omega) (by omega)]
            exact (f4.1 _ _ (by omega)).trans (h8 j hj)
          · have hi' : i < X.1 4 + 1 := by rw [← V4]; exact hi
            show _ = nI (upN X.2.2.2.1 (X.1 4 + 1) k1 (i + 1))
            by_cases c2 : i = X.1 4
            · rw [c2, upN_at, sI_1, if_neg (by omega), sI_at]
            · rw [upN_ne _ _ (show ¬ i + 1 = X.1 4 + 1 by omega)]
              exact (f4.1 _ _ (by omega)).trans (h11 i (by omega))
      · obtain ⟨s2, a1, a2, a3, a4, a5⟩ := rS1 s hs
        obtain ⟨s3, b1, b2, b4⟩ := p3 s2 a1
        have b1' : fX12_readExpression N 12 419 (nI 0) (mk s2) = some (.inl (), mk s3) := b1
        have l3 := RLn_E a2 b4
        have k12 : s3.1 422 12 = nI (X.1 4) := l3.1 4 (by omega)
        have k14 : s3.1 422 14 = nI k1 := b2.2.2.2.2.1
        have k12' : (sI s3 431 (4 + X.1 4) (nI k1)).1 422 12 = nI (X.1 4) := by rw [sI_1, if_neg (by omega)]; exact k12
        have f4 : Fr (fun x j => (x = 431 ∧ j = 4 + X.1 4) ∨ (x = 422 ∧ j = 12)) s3 (sI (sI s3 431 (4 + X.1 4) (nI k1)) 422 12 (nI (X.1 4 + 1))) := Fr_t (Fr_sI (by omega)) (Fr_sI (by omega))
        refine ⟨sI (sI s3 431 (4 + X.1 4) (nI k1)) 422 12 (nI (X.1 4 + 1)), ?_, ⟨?_, ?_⟩, Fr_t (Fr_m a4 ?_) (Fr_t (Fr_m b4 rE_F) (Fr_m f4 (by intro x j q; unfold rF; omega)))⟩
        · rw [a5, b1', cS_l, gR12 12 431 rfl rfl, ob_s, gR12 3 422 rfl rfl, ob_s, a14, ob_s, k14, t430 (Or.inr rfl) (by omega), ob_s, gR12 3 422 rfl rfl, ob_s, a12, ob_s, k12', nI_1, t12, ob_s]
          rfl
        · have := RPs_o b2 f4 (by intro x j q; omega)
          show RPs T L _ e1 (upN (upN X.1 4 (X.1 4 + 1)) 6 k1 6) Q1
          rw [V6]; exact this
        · obtain ⟨h1, h2, h3, h4, h5⟩ := l3
          refine ⟨fun i hi => ?_, (f4.1 _ _ (by omega)).trans h2, fun f k f1 f2 hk => (f4.1 _ _ (by omega)).trans (h3 f k f1 f2 hk), fun m hm => (f4.1 _ _ (by omega)).trans (h4 m hm), fun i hi => ?_⟩
          · show _ = nI (upN (upN X.1 4 (X.1 4 + 1)) 6 k1 i)
            by_cases c2 : i = 4
            · rw [c2, V4]; exact sI_at _ _ _ _
            · rw [Vo _ c2 (by omega)]
              exact (f4.1 _ _ (by omega)).trans (h1 i hi)
          · have hi' : i < X.1 4 + 1 := by rw [← V4]; exact hi
            show _ = nI (upN X.2.2.2.1 (X.1 4 + 1) k1 i) ∧ _ = nI (upN X.2.2.2.1 (X.1 4 + 1) k1 (i + 1))
            rw [upN_ne _ _ (show ¬ i = X.1 4 + 1 by omega)]
            by_cases c2 : i = X.1 4
            · rw [c2, upN_at, w11]
              refine ⟨?_, ?_⟩
              · rw [f4.1 _ _ (by omega), b4.1 _ _ (by unfold rE; omega)]; exact a3
              · rw [sI_1, if_neg (by omega), sI_at]
            · rw [upN_ne _ _ (show ¬ i + 1 = X.1 4 + 1 by omega)]
              exact ⟨(f4.1 _ _ (by omega)).trans (h5 i (by omega)).1, (f4.1 _ _ (by omega)).trans (h5 i (by omega)).2⟩
        · intro x j q
          rcases q with q | q
          · exact rE_F x j q
          · unfold rF; omega
/-! day, move, cold -/
def cOn (N j : Nat) (lo hi : Int32) (c3 : mm_C) : mR Unit := Option.bind (gR c3 34 2 3) fun x4 => Option.bind (gI c3 34 2 (4 + j)) fun x5 => cV 2 34 c3 (fX2_readsOnce N 34 x5 lo hi c3) fun r6 c7 => Option.bind (pI c7 x4 3 j r6) fun c8 => Option.bind (pZ c8 34 2 (4 + j) (1 : Int32)) fun c9 => some (.inl (), c9)
def r79 (N j : Nat) (lo hi v1 v2 : Int32) (c : mm_C) : mR Int32 := Option.bind (gR c 419 12 3) fun x1 => cV 12 419 c (fX12_readNumber N 419 lo hi c) fun r2 c3 => Option.bind (tI c3 x1 (nI (9 + j)) r2) fun c4 => bX12_readLine_213 N 419 v1 v2 c4
def r64 (N j : Nat) (lo hi v1 v2 : Int32) (c : mm_C) : mR Int32 := Option.bind (gI c 419 12 23) fun x12 => if ¬ x12 = 0 then (r79 N j lo hi v1 v2 c) else (cV 12 419 c (fX12_stepOn N 419 c) fun (_ : Unit) c13 => r79 N j lo hi v1 v2 c13)
def rOn (N j : Nat) (lo hi v1 v2 : Int32) (c : mm_C) : mR Int32 := if (v2 &&& v1) = 0 then (r64 N j lo hi v1 v2 c) else (cV 12 419 c (fX12_wrong N 419 (4 : Int32) c) fun (_ : Unit) c4 => r64 N j lo hi v1 v2 c4)
theorem rb_r79 {j : Nat} (hj : j < 3) {lo hi v1 v2 : Int32} {s : sg} (hb : ¬ s.1 419 23 = 0) : r79 N j lo hi v1 v2 (mk s) = bX12_readLine_213 N 419 v1 v2 (mk (sI s 422 (9 + j) 0)) := by
  unfold r79
  rw [gR12 3 422 rfl rfl, ob_s, cV12, rb_rn hb, cS_l, t422 (by omega), ob_s]
theorem rb_r64 {j : Nat} (hj : j < 3) {lo hi v1 v2 : Int32} {s : sg} (hb : ¬ s.1 419 23 = 0) : r64 N j lo hi v1 v2 (mk s) = bX12_readLine_213 N 419 v1 v2 (mk (sI s 422 (9 + j) 0)) := by
  unfold r64
  rw [gI12 23 rfl, ob_s, if_pos hb, rb_r79 hj hb]
theorem lnOnce (hN1 : 1000 ≤ N) (hL : L ≤ 700) (hT : ∀ j, j < L → T j < 256) (hp : plA p) (he : e ≤ L) (hk : ¬ tkK T L e = 0) (W : WX e X) {j lo hi : Nat} {x y v1 v2 : Int32} (hj : j < 3) (hx : x = nI lo) (hy : y = nI hi) (hlo : lo < 10000) (hhi : hi < 10000) (hAnd : v2 &&& v1 = 0 ↔ X.1 (8 + j) = 0) (hfj : fI 3 j = true) (hf4 : fI 2 (4 + j) = true) (hW : ∀ v, lo ≤ v → v ≤ hi → (j = 0 → 10 ≤ v ∧ v ≤ 480) ∧ (j = 1 → v ≤ 120) ∧ (j = 2 → v ≤ 9)) : ∃ o, Ln T L p (cOn N j x y) (rOn N j x y v1 v2) (bX12_readLine_213 N 419 v1 v2) e X (fun X1 => ∀ i, i < 3 → X1.1 (8 + i) = if i = j then 1 else X.1 (8 + i)) o := by
  have hp' : p = 2 ∨ p = 18 := hp
  have kp := (plK hp).1
  obtain ⟨w0, w1, w2, w3, w4, w5, w6, w7, w8, w9, w10, w11, w12⟩ := W
  have hA := tkA_le (T := T) he
  have hE := tkE_le (T := T) he
  have hE2 := tkE_gt he hk
  have h8 := w8 j hj
  have gj : ∀ s : sg, gI (mk s) 34 2 (4 + j) = some (s.1 34 (4 + j)) := fun s => gI34 (4 + j) hf4
  by_cases c : X.1 (8 + j) = 0
  · have cS1 : ∀ s, CX T L p s e X → ∃ s2, CPs T L p s2 (tkE T L e) (X.1 6) X.2.2.2.2 ∧ Fr (cE p) s s2 ∧ cOn N j x y (mk s) = cS (fX2_readsNumber N 34 x y (mk s2)) fun r6 c7 => Option.bind (pI c7 p 3 j r6) fun c8 => Option.bind (pZ c8 34 2 (4 + j) (1 : Int32)) fun c9 => some (.inl (), c9) := by
      intro s hs
      obtain ⟨s2, a1, a2, a3⟩ := CPs_adv (N := N) hN1 hL hT hp he hs.1
      refine ⟨s2, a2, a3, ?_⟩
      have q8 : s.1 34 (4 + j) = 0 := by rw [hs.2.2.2.2.2.2.2.2.1 j hj, c]; rfl
      unfold cOn fX2_readsOnce bX2_readsOnce_0 bX2_readsOnce_9
      rw [gR34p, ob_s, hs.1.1, gj, ob_s, q8, cV34, if_pos rfl, gR34, ob_s, cV10, a1, cS_l, cV34]
      cases fX2_readsNumber N 34 x y (mk s2) with
      | none => rfl
      | some r =>
        obtain ⟨r1, c1⟩ := r
        cases r1 with
        | inl v => rw [cS_l, cS_l]
        | inr v => rw [cS_r, cS_r]
    have rS1 : ∀ s, RX T L s e X → ∃ s2, RPs T L s2 (tkE T L e) (X.1 6) X.2.2.2.2 ∧ Fr rE s s2 ∧ rOn N j x y v1 v2 (mk s) = r79 N j x y v1 v2 (mk s2) := by
      intro s hs
      obtain ⟨s2, a1, a2, a3⟩ := RPs_step (N := N) hN1 hL hT he hs.1
      refine ⟨s2, a2, a3, ?_⟩
      unfold rOn r64
      rw [if_pos (hAnd.mpr c), gI12 23 rfl, ob_s, hs.1.2.2.2.1, if_neg (fun z => z rfl), cV12, a1, cS_l]
    by_cases c2 : nG T L (tkE T L e) lo hi = 0
    · obtain ⟨n1, n2, n3⟩ := nG_0 c2
      have hkk : ¬ tkK T L (tkE T L e) = 0 := by have := (nF_0 n1).1; omega
      have hA2 := tkA_le (T := T) hE.2
      have hE3 := tkE_le (T := T) hE.2
      have hE4 := tkE_gt hE.2 hkk
      obtain ⟨hw0, hw1, hw2⟩ := hW (nV T L (tkE T L e)) n2 n3
      generalize hv : nV T L (tkE T L e) = v at hw0 hw1 hw2
      have Vj : upN (upN X.1 (1 + j) v) (8 + j) 1 (1 + j) = v := by rw [upN_ne _ _ (by omega), upN_at]
      have V8 : upN (upN X.1 (1 + j) v) (8 + j) 1 (8 + j) = 1 := upN_at _ _ _
      have Vo : ∀ i, ¬ i = 1 + j → ¬ i = 8 + j → upN (upN X.1 (1 + j) v) (8 + j) 1 i = X.1 i := fun i h1 h2 => by rw [upN_ne _ _ h2, upN_ne _ _ h1]
      have Ve : ∀ i, i < 3 → upN (upN X.1 (1 + j) v) (8 + j) 1 (8 + i) = if i = j then 1 else X.1 (8 + i) := fun i hi => by
        by_cases c3 : i = j
        · rw [if_pos c3, c3, V8]
        · rw [if_neg c3, Vo _ (by omega) (by omega)]
      have V1 : 10 ≤ upN (upN X.1 (1 + j) v) (8 + j) 1 1 ∧ upN (upN X.1 (1 + j) v) (8 + j) 1 1 ≤ 480 := by
        by_cases c3 : j = 0
        · subst c3; rw [show upN (upN X.1 (1 + 0) v) (8 + 0) 1 1 = v from Vj]; exact hw0 rfl
        · rw [Vo 1 (by omega) (by omega)]; exact w1
      have V2 : upN (upN X.1 (1 + j) v) (8 + j) 1 2 ≤ 120 := by
        by_cases c3 : j = 1
        · subst c3; rw [show upN (upN X.1 (1 + 1) v) (8 + 1) 1 2 = v from Vj]; exact hw1 rfl
        · rw [Vo 2 (by omega) (by omega)]; exact w2
      have V3 : upN (upN X.1 (1 + j) v) (8 + j) 1 3 ≤ 9 := by
        by_cases c3 : j = 2
        · subst c3; rw [show upN (upN X.1 (1 + 2) v) (8 + 2) 1 3 = v from Vj]; exact hw2 rfl
        · rw [Vo 3 (by omega) (by omega)]; exact w3
      refine ⟨.inr (tkE T L (tkE T L e), (upN (upN X.1 (1 + j) v) (8 + j) 1, X.2)), ⟨by omega, hE3.2, ?_, Ve⟩, fun s hs => ?_, fun s hs => ?_⟩
      · refine ⟨?_, V1, V2, V3, ?_, ?_, ?_, ?_, fun i hi => ?_, fun k hk => ?_, w10, ?_, fun r hr => ?_⟩
        · show upN (upN X.1 (1 + j) v) (8 + j) 1 0 ≤ 8
          rw [Vo 0 (by omega) (by omega)]; exact w0
        · show upN (upN X.1 (1 + j) v) (8 + j) 1 4 ≤ 4
          rw [Vo 4 (by omega) (by omega)]; exact w4
        · show upN (upN X.1 (1 + j) v) (8 + j) 1 5 ≤ 16
          rw [Vo 5 (by omega) (by omega)]; exact w5
        · show upN (upN X.1 (1 + j) v) (8 + j) 1 6 ≤ _
          rw [Vo 6 (by omega) (by omega)]; omega
        · show upN (upN X.1 (1 + j) v) (8 + j) 1 7 ≤ 480 * upN (upN X.1 (1 + j) v) (8 + j) 1 5
          rw [Vo 7 (by omega) (by omega), Vo 5 (by omega) (by omega)]; exact w7
        · show upN (upN X.1 (1 + j) v) (8 + j) 1 (8 + i) ≤ 1
          have := w8 i hi
          rw [Ve i hi]
          split <;> omega
        · have hk' : k < X.1 0 := by rw [← Vo 0 (by omega) (by omega)]; exact hk
          exact w9 k hk'
        · show X.2.2.2.1 (upN (upN X.1 (1 + j) v) (8 + j) 1 4) = upN (upN X.1 (1 + j) v) (8 + j) 1 6
          rw [Vo 4 (by omega) (by omega), Vo 6 (by omega) (by omega)]; exact w11
        · have hr' : r < X.1 4 := by rw [← Vo 4 (by omega) (by omega)]; exact hr
          show _ ∧ X.2.2.2.1 (r + 1) ≤ upN (upN X.1 (1 + j) v) (8 + j) 1 6 ∧ _
          rw [Vo 6 (by omega) (by omega)]
          exact w12 r hr'
      · obtain ⟨s2, a2, a3, a1⟩ := cS1 s hs
        obtain ⟨s3, b1, b2, b3⟩ := c_rn0 (N := N) (lo := lo) (hi := hi) hN1 hL hT hp hE.2 a2 hx hy hhi c2
        rw [hv] at b1
        have l3 := CL_E hp w0 (CL_E hp w0 hs.2 a3) b3
        have f4 : Fr (fun x i => (x = p ∧ i = j) ∨ (x = 34 ∧ i = 4 + j)) s3 (sI (sI s3 p j (nI v)) 34 (4 + j) 1) := Fr_t (Fr_sI (by omega)) (Fr_sI (by omega))
        refine ⟨sI (sI s3 p j (nI v)) 34 (4 + j) 1, ?_, ⟨?_, ?_⟩, Fr_t (Fr_m a3 (cE_F p)) (Fr_t (Fr_m b3 (cE_F p)) (Fr_m f4 (by intro x j q; unfold cF; omega)))⟩
        · rw [a1, b1, cS_l, pI_k ⟨kp, hfj, by decide⟩, ob_s, pZ_k (a := 34) (ci := 2) ⟨rfl, hf4, by decide⟩ (Or.inr rfl), ob_s]
        · have := CPs_o b2 f4 (by intro x j q; omega)
          show CPs T L p _ _ (upN (upN X.1 (1 + j) v) (8 + j) 1 6) X.2.2.2.2
          rw [Vo 6 (by omega) (by omega)]; exact this
        · obtain ⟨h1, h2, h3, h4, h5, h6, h7, h9, h10, h11, h12⟩ := l3
          have hq : ∀ i, i < 3 → s3.1 p i = nI (X.1 (1 + i)) := fun i hi => by
            obtain rfl | rfl | rfl : i = 0 ∨ i = 1 ∨ i = 2 := by omega
            · exact h1
            · exact h2
            · exact h3
          have key : ∀ i, i < 3 → (sI (sI s3 p j (nI v)) 34 (4 + j) 1).1 p i = nI (upN (upN X.1 (1 + j) v) (8 + j) 1 (1 + i)) := fun i hi => by
            rw [sI_1, if_neg (by omega), sI_1]
            by_cases c3 : i = j
            · rw [if_pos ⟨rfl, c3⟩, c3, Vj]
            · rw [if_neg (fun z => c3 z.2), Vo _ (by omega) (by omega)]; exact hq i hi
          refine ⟨key 0 (by omega), key 1 (by omega), key 2 (by omega), ?_, ?_, ?_, ?_, fun i hi => ?_, fun k hk => ?_, kSky_fr h11 f4 (fun i => by omega), fun i hi => ?_⟩
          · show _ = nI (upN (upN X.1 (1 + j) v) (8 + j) 1 0)
            rw [Vo _ (by omega) (by omega)]; exact (f4.1 _ _ (by omega)).trans h4
          · show _ = nI (upN (upN X.1 (1 + j) v) (8 + j) 1 5)
            rw [Vo _ (by omega) (by omega)]; exact (f4.1 _ _ (by omega)).trans h5
          · show _ = nI (upN (upN X.1 (1 + j) v) (8 + j) 1 7)
            rw [Vo _ (by omega) (by omega)]; exact (f4.1 _ _ (by omega)).trans h6
          · show _ = nI (upN (upN X.1 (1 + j) v) (8 + j) 1 4)
            rw [Vo _ (by omega) (by omega)]; exact (f4.1 _ _ (by omega)).trans h7
          · show _ = nI (upN (upN X.1 (1 + j) v) (8 + j) 1 (8 + i))
            rw [Ve i hi]
            by_cases c3 : i = j
            · rw [if_pos c3, c3, sI_at]; rfl
            · rw [if_neg c3]; exact (f4.1 _ _ (by omega)).trans (h9 i hi)
          · have hk' : k < X.1 0 := by rw [← Vo 0 (by omega) (by omega)]; exact hk
            exact ShAt_o (h10 k hk') f4 (fun i => by omega)
          · have hi' : i < X.1 4 := by rw [← Vo 4 (by omega) (by omega)]; exact hi
            exact (f4.1 _ _ (by omega)).trans (h12 i hi')
      · obtain ⟨s2, a2, a3, a1⟩ := rS1 s hs
        obtain ⟨s3, b1, b2, b3⟩ := r_rn0 (N := N) (lo := lo) (hi := hi) hN1 hL hT hE.2 a2 hx hy hhi c2
        rw [hv] at b1
        have l3 := RLn_E (RLn_E hs.2 a3) b3
        have f4 : Fr (fun x i => x = 422 ∧ i = 9 + j) s3 (sI s3 422 (9 + j) (nI v)) := Fr_sI (by omega)
        refine ⟨sI s3 422 (9 + j) (nI v), ?_, ⟨?_, ?_⟩, Fr_t (Fr_m a3 rE_F) (Fr_t (Fr_m b3 rE_F) (Fr_m f4 (by intro x j q; unfold rF; omega)))⟩
        · rw [a1]
          unfold r79
          rw [gR12 3 422 rfl rfl, ob_s, cV12, b1, cS_l, t422 (by omega), ob_s]
        · have := RPs_o b2 f4 (by intro x j q; omega)
          show RPs T L _ _ (upN (upN X.1 (1 + j) v) (8 + j) 1 6) X.2.2.2.2
          rw [Vo 6 (by omega) (by omega)]; exact this
        · obtain ⟨h1, h2, h3, h4, h5⟩ := l3
          refine ⟨fun i hi => ?_, ?_, fun f k f1 f2 hk => ?_, fun m hm => (f4.1 _ _ (by omega)).trans (h4 m hm), fun i hi => ?_⟩
          · show _ = nI (upN (upN X.1 (1 + j) v) (8 + j) 1 i)
            by_cases c3 : i = 1 + j
            · rw [c3, Vj, sI_1, if_pos (by omega)]
            · rw [Vo _ c3 (by omega)]; exact (f4.1 _ _ (by omega)).trans (h1 i hi)
          · show _ = nI (min (upN (upN X.1 (1 + j) v) (8 + j) 1 7) 480)
            rw [Vo _ (by omega) (by omega)]; exact (f4.1 _ _ (by omega)).trans h2
          · have hk' : k < X.1 0 := by rw [← Vo 0 (by omega) (by omega)]; exact hk
            exact (f4.1 _ _ (by omega)).trans (h3 f k f1 f2 hk')
          · have hi' : i < X.1 4 := by rw [← Vo 4 (by omega) (by omega)]; exact hi
            exact ⟨(f4.1 _ _ (by omega)).trans (h5 i hi').1, (f4.1 _ _ (by omega)).trans (h5 i hi').2⟩
    · have hg2 := nG_2 T L (tkE T L e) lo hi
      refine ⟨.inl (nG T L (tkE T L e) lo hi, tkE T L e), ⟨by omega, by omega, hE.2⟩, fun s hs => ?_, fun s hs => ?_⟩
      · obtain ⟨s2, a2, a3, a1⟩ := cS1 s hs
        obtain ⟨s3, b1, b2, b3, b4⟩ := c_rn1 (N := N) (lo := lo) (hi := hi) hN1 hL hT hE.2 a2 hx hy hlo hhi c2
        exact ⟨s3, by rw [a1, b1, cS_r], b2, b3, Fr_t (Fr_m a3 (cE_F p)) (Fr_m b4 (cE_F p))⟩
      · obtain ⟨s2, a2, a3, a1⟩ := rS1 s hs
        obtain ⟨s3, b1, b2, b3, b4⟩ := r_rn1 (N := N) (lo := lo) (hi := hi) hL hT hE.2 a2 hx hy hlo hhi c2
        refine ⟨sI s3 422 (9 + j) 0, ?_, by rw [sI_1, if_neg (by omega)]; exact b2, by rw [sI_1, if_neg (by omega)]; exact b3, Fr_t (Fr_m a3 rE_F) (Fr_t (Fr_m b4 rE_F) (Fr_sI (by unfold rF; omega)))⟩
        rw [a1]
        unfold r79
        rw [gR12 3 422 rfl rfl, ob_s, cV12, b1, cS_l, t422 (by omega), ob_s]
  · have c1 : X.1 (8 + j) = 1 := by omega
    refine ⟨.inl (4, e), ⟨by omega, by omega, he⟩, fun s hs => ?_, fun s hs => ?_⟩
    · obtain ⟨s', b1, b2, b3, b4⟩ := c_ref (N := N) hs.1 (f := 4) (x := 4) rfl
      refine ⟨s', ?_, b2, b3, Fr_m b4 (cE_F p)⟩
      have q8 : s.1 34 (4 + j) = 1 := by rw [hs.2.2.2.2.2.2.2.2.1 j hj, c1]; rfl
      unfold cOn fX2_readsOnce bX2_readsOnce_0
      rw [gR34p, ob_s, gj, ob_s, q8, cV34, if_neg (by decide), cV34, b1, cS_r, cS_r]
    · obtain ⟨s', b1, b2, b3, b4⟩ := r_wr (N := N) hs.1 (f := 4) (x := 4) rfl
      have hb : ¬ s'.1 419 23 = 0 := by rw [b2]; exact nI_b (by omega) (by omega)
      refine ⟨sI s' 422 (9 + j) 0, ?_, by rw [sI_1, if_neg (by omega)]; exact b2, by rw [sI_1, if_neg (by omega)]; exact b3, Fr_t (Fr_m b4 rE_F) (Fr_sI (by unfold rF; omega))⟩
      unfold rOn
      rw [if_neg (fun z => c (hAnd.mp z)), cV12, b1, cS_l, rb_r64 hj hb]
end LRU
