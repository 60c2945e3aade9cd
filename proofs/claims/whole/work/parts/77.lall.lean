/- needs: 76.lshot -/
/-! a line of a shot, of a rule, of a number told once -/
section LSA
variable {N : Nat} {T : Nat → Nat} {L p e : Nat} {X : pX}
theorem So_cg {n k m : Nat} {Q : Nat → Int32} {F G G2 : mm_C → mR Unit} {a : Nat → Int32} (h : ∀ s, G2 (mk s) = G (mk s)) : ∀ o, So T L p n k Q F G e m a o → So T L p n k Q F G2 e m a o
  | .inl (f, e1), ⟨h0, h1, h2⟩ => ⟨h0, h1, fun s hs h8 ha => by rw [h]; exact h2 s hs h8 ha⟩
  | .inr (e1, a1), ⟨h0, h1, h2⟩ => ⟨h0, h1, fun s hs h8 ha => by rw [h]; exact h2 s hs h8 ha⟩
theorem So_all (hN1 : 1000 ≤ N) (hL : L ≤ 700) (hT : ∀ j, j < L → T j < 256) (hp : plA p) {n k : Nat} {Q : Nat → Int32} (hn : n < 8) (he : e ≤ L) (a : Nat → Int32) : ∃ o, So T L p n k Q (kS1 N p (p + 8 + n) (nI n)) (qS1 N (nI n)) e 1 a o := by
  have s4 : ∀ (e : Nat), e ≤ L → ∀ (a : Nat → Int32) (u : Nat), u ≤ 480 → a 3 = nI u → ∃ o, So T L p n k Q (kS4 N p (p + 8 + n) (nI n)) (qS4 N (nI n)) e 4 a o := by
    intro e he a u hu ha3
    have hE := tkE_le (T := T) he
    refine So_step (F' := fun c19 => Option.bind (pI c19 (p + 8 + n) 7 5 (-1 : Int32)) fun c20 => kS5 N p (p + 8 + n) (nI n) c20) (G' := fun c24 => Option.bind (gR c24 419 12 9) fun x25 => Option.bind (tI c24 x25 ((8 : Int32) + nI n) (-1 : Int32)) fun c26 => qS5 N (nI n) c26) (lo := u) (hi := 480) hN1 hL hT hp hn he (by omega) (by omega) rfl (by omega) (by omega) (fun s ha => ?_) (fun s ha => ?_) (fun s hb h8 => ?_) (fun c a1 h1 h2 => ?_) (fun c => ?_)
    · unfold kS4
      rw [gSh hp hn 3 rfl, ob_s, ha 3 (by omega), ha3, cV34]
      rfl
    · have h3 : s.1 426 (8 + n) = nI u := (ha 3 (by omega)).trans ha3
      unfold qS4
      rw [gR12 8 427 rfl rfl, ob_s, gR12 7 426 rfl rfl, ob_s, e8n, aRow (by omega) (by omega) (by omega), ob_s, h3, cV12]
      rfl
    · obtain ⟨s', b1, b2⟩ := bG_st (s := s) (bG5 hN1) (a := 428) (i := 8 + n) (x := -1) (by omega) (by omega) rfl hb h8
      refine ⟨s', ?_, b2⟩
      show Option.bind (gR (mk s) 419 12 9) _ = _
      rw [gR12 9 428 rfl rfl, ob_s, e8n, tRow (by omega) (by omega) (by omega), ob_s, b1]
    · exact ⟨fun z => by omega, fun z => by omega, fun z => by omega, fun z => ⟨_, (nG_0 c).2.2, h1⟩, fun z => h2.2.2.2.2 (by omega)⟩
    · obtain ⟨o, ho⟩ := So_5 (N := N) (p := p) (n := n) (k := k) (Q := Q) hN1 hL hT hp hn hE.2 (up1 a 4 (nI (nV T L e)))
      exact ⟨o, So_cg (fun s => by
        show Option.bind (gR (mk s) 419 12 9) _ = Option.bind (tI (mk s) 428 (nI (8 + n)) (-1 : Int32)) _
        rw [gR12 9 428 rfl rfl, ob_s, e8n]) o ho⟩
  have s3 : ∀ (e : Nat), e ≤ L → ∀ (a : Nat → Int32), ∃ o, So T L p n k Q (kS3 N p (p + 8 + n) (nI n)) (qS3 N (nI n)) e 3 a o := by
    intro e he a
    have hE := tkE_le (T := T) he
    refine So_step (F' := kS4 N p (p + 8 + n) (nI n)) (G' := qS4 N (nI n)) (lo := 0) (hi := 480) hN1 hL hT hp hn he (by omega) (by omega) rfl (by omega) (by omega) (fun s ha => ?_) (fun s ha => ?_) (bG4 hN1 hn) (fun c a1 h1 h2 => ?_) (fun c => s4 _ hE.2 _ (nV T L e) (nG_0 c).2.2 (up1_at a 3 _))
    · unfold kS3
      rw [cV34]
      rfl
    · unfold qS3
      rw [gR12 7 426 rfl rfl, ob_s, e8n, cV12]
      rfl
    · exact ⟨fun z => by omega, fun z => by omega, fun z => ⟨_, (nG_0 c).2.2, h1⟩, fun z => h2.2.2.2.1 (by omega), fun z => h2.2.2.2.2 (by omega)⟩
  have s2 : ∀ (e : Nat), e ≤ L → ∀ (a : Nat → Int32), ∃ o, So T L p n k Q (kS2 N p (p + 8 + n) (nI n)) (qS2 N (nI n)) e 2 a o := by
    intro e he a
    have hE := tkE_le (T := T) he
    refine So_step (F' := kS3 N p (p + 8 + n) (nI n)) (G' := qS3 N (nI n)) (lo := 1) (hi := 30) hN1 hL hT hp hn he (by omega) (by omega) rfl (by omega) (by omega) (fun s ha => ?_) (fun s ha => ?_) (bG3 hN1 hn) (fun c a1 h1 h2 => ?_) (fun c => s3 _ hE.2 _)
    · unfold kS2
      rw [cV34]
      rfl
    · unfold qS2
      rw [gR12 6 425 rfl rfl, ob_s, e8n, cV12]
      rfl
    · exact ⟨fun z => by omega, fun z => ⟨_, (nG_0 c).2.1, (nG_0 c).2.2, h1⟩, fun z => h2.2.2.1 (by omega), fun z => h2.2.2.2.1 (by omega), fun z => h2.2.2.2.2 (by omega)⟩
  have hE := tkE_le (T := T) he
  refine So_step (F' := kS2 N p (p + 8 + n) (nI n)) (G' := qS2 N (nI n)) (lo := 0) (hi := 2) hN1 hL hT hp hn he (by omega) (by omega) rfl (by omega) (by omega) (fun s ha => ?_) (fun s ha => ?_) (bG2 hN1 hn) (fun c a1 h1 h2 => ?_) (fun c => s2 _ hE.2 _)
  · unfold kS1
    rw [cV34]
    rfl
  · unfold qS1
    rw [gR12 5 424 rfl rfl, ob_s, e8n, cV12]
    rfl
  · exact ⟨fun z => ⟨_, (nG_0 c).2.2, h1⟩, fun z => h2.2.1 (by omega), fun z => h2.2.2.1 (by omega), fun z => h2.2.2.2.1 (by omega), fun z => h2.2.2.2.2 (by omega)⟩
theorem nI_3 {v : Nat} (h : v ≤ 2) : nI v = 0 ∨ nI v = 1 ∨ nI v = 2 := by
  obtain rfl | rfl | rfl : v = 0 ∨ v = 1 ∨ v = 2 := by omega
  · exact Or.inl rfl
  · exact Or.inr (Or.inl rfl)
  · exact Or.inr (Or.inr rfl)
def inA2 (A : Nat → Nat → Int32) (n : Nat) (a : Nat → Int32) : Nat → Nat → Int32 := fun f k => if k = n then a (f - 1) else A f k
theorem inA2_at (A : Nat → Nat → Int32) (n : Nat) (a : Nat → Int32) (f : Nat) : inA2 A n a f n = a (f - 1) := by unfold inA2; rw [if_pos rfl]
theorem inA2_ne (A : Nat → Nat → Int32) {n k : Nat} (a : Nat → Int32) (f : Nat) (h : ¬ k = n) : inA2 A n a f k = A f k := by unfold inA2; rw [if_neg h]
theorem gS_ne {A : Nat → Nat → Int32} {n k : Nat} (a : Nat → Int32) (h : ¬ k = n) (hg : gS A k) : gS (inA2 A n a) k := by
  unfold gS okS at hg ⊢
  rw [inA2_ne A a 1 h, inA2_ne A a 2 h, inA2_ne A a 3 h, inA2_ne A a 4 h, inA2_ne A a 5 h, inA2_ne A a 6 h]
  exact hg
theorem gS_at {A : Nat → Nat → Int32} {n kd : Nat} {a : Nat → Int32} (hk : kd ≤ 2) (h0 : a 0 = nI kd) (h : fA n 1 a) : gS (inA2 A n a) n := by
  obtain ⟨h1, h2, h3, h4, h5⟩ := h
  obtain ⟨v1, g1, g2⟩ := h1 (by omega)
  obtain ⟨v2, g3, g4, g5⟩ := h2 (by omega)
  obtain ⟨v3, g6, g7⟩ := h3 (by omega)
  obtain ⟨v4, g8, g9⟩ := h4 (by omega)
  unfold gS okS
  rw [inA2_at, inA2_at, inA2_at, inA2_at, inA2_at, inA2_at]
  refine ⟨⟨?_, ?_⟩, ⟨v2, g5, g3, g4⟩, ⟨v3, g7, g6⟩, ⟨v4, g9, g8⟩, h5 (by omega)⟩
  · show a 0 = 0 ∨ a 0 = 1 ∨ a 0 = 2
    rw [h0]; exact nI_3 hk
  · show a 1 = 0 ∨ a 1 = 1 ∨ a 1 = 2
    rw [g2]; exact nI_3 g1
theorem cSh_F {n : Nat} (hn : n < 8) (p x j : Nat) (h : cSh p n x j) : cF p x j := by
  rcases h with h | h
  · exact cE_F p x j h
  · unfold cF; omega
theorem rH_F {n : Nat} (x j : Nat) (h : rH n x j) : rF x j := by
  rcases h with h | h
  · exact rE_F x j h
  · unfold rF; omega
theorem lnShot (hN1 : 1000 ≤ N) (hL : L ≤ 700) (hT : ∀ j, j < L → T j < 256) (hp : plA p) (he : e ≤ L) (hk : ¬ tkK T L e = 0) (W : WX e X) {kd : Nat} (hkd : kd ≤ 2) : ∃ o, Ln T L p (fX2_readsShot N 34 (nI kd)) (fX12_readShot N 419 (nI kd)) kU e X (sFl X) o := by
  have hp' : p = 2 ∨ p = 18 := hp
  have kp := (plK hp).1
  have W' := W
  obtain ⟨w0, w1, w2, w3, w4, w5, w6, w7, w8, w9, w10, w11, w12⟩ := W
  have hA := tkA_le (T := T) he
  have hE := tkE_le (T := T) he
  have hE2 := tkE_gt he hk
  have g3 : ∀ s : sg, gI (mk s) p 3 3 = some (s.1 p 3) := fun s => gI_k ⟨kp, rfl, by decide⟩
  by_cases c : X.1 0 = 8
  · refine ⟨.inl (2, e), ⟨by omega, by omega, he⟩, fun s hs => ?_, fun s hs => ?_⟩
    · obtain ⟨s', b1, b2, b3, b4⟩ := c_ref (N := N) hs.1 (f := 2) (x := 2) rfl
      refine ⟨s', ?_, b2, b3, Fr_m b4 (cE_F p)⟩
      unfold fX2_readsShot bX2_readsShot_0
      rw [gR34p, ob_s, hs.1.1, g3, ob_s, hs.2.2.2.2.1, c, if_neg (show ¬ nI 8 < (8 : Int32) by decide), cV34, b1, cS_r]
    · obtain ⟨s', b1, b2, b3, b4⟩ := r_an1 (N := N) (i := 0) (m := 8) (x := 0) (y := 8) rfl rfl (by omega) (by rw [hs.2.1 0 (by omega), c]) hs.1
      refine ⟨s', ?_, b2, b3, Fr_m b4 rE_F⟩
      rw [qS0, cV12, b1, cS_l, if_neg (fun z => z rfl)]
      rfl
  · generalize hn9 : X.1 0 = n at c w0
    have hn : n < 8 := by omega
    obtain ⟨o, ho⟩ := So_all (N := N) (p := p) (k := X.1 6) (Q := X.2.2.2.2) hN1 hL hT hp hn hE.2 (fun _ => nI kd)
    have cS1 : ∀ s, CX T L p s e X → ∃ s4, fX2_readsShot N 34 (nI kd) (mk s) = kS1 N p (p + 8 + n) (nI n) (mk s4) ∧ CPs T L p s4 (tkE T L e) (X.1 6) X.2.2.2.2 ∧ (∀ j, j < 1 → s4.1 (p + 8 + n) j = nI kd) ∧ s4.1 p 3 = nI (n + 1) ∧ Fr (fun x j => cE p x j ∨ x = p + 8 + n ∨ (x = p ∧ j = 3)) s s4 := by
      intro s hs
      obtain ⟨s2, a1, a2, a3⟩ := CPs_adv (N := N) hN1 hL hT hp he hs.1
      have l2 := CL_E hp (by omega) hs.2 a3
      have k3 : s2.1 p 3 = nI n := by rw [l2.2.2.2.1, hn9]
      have f3 : Fr (fun x j => cE p x j ∨ x = p + 8 + n ∨ (x = p ∧ j = 3)) s2 (sI (sI s2 p 3 (nI (n + 1))) (p + 8 + n) 0 (nI kd)) := Fr_t (Fr_sI (by omega)) (Fr_sI (by omega))
      refine ⟨sI (sI s2 p 3 (nI (n + 1))) (p + 8 + n) 0 (nI kd), ?_, CPs_sh hp hn (CPs_o a2 (Fr_sI (D := fun x j => x = p ∧ j = 3) ⟨rfl, rfl⟩) (by intro x j q; omega)) _ _, fun j hj => ?_, ?_, Fr_t (Fr_m a3 (fun x j q => Or.inl q)) f3⟩
      · unfold fX2_readsShot bX2_readsShot_0
        rw [gR34p, ob_s, hs.1.1, g3, ob_s, hs.2.2.2.2.1, hn9, if_pos (show nI n < (8 : Int32) from nI_lt (b := 8) hn (by omega)), kS0 N p, gR34, ob_s, cV10, a1, cS_l, gR34p, ob_s, a2.1, cV_k ⟨kp, by decide⟩, c_addShot hp hn k3, cS_l, pSh hp hn 0 rfl, ob_s]
      · rw [show j = 0 by omega, sI_at]
      · rw [sI_1, if_neg (by omega), sI_at]
    have rS1 : ∀ s, RX T L s e X → ∃ s4, fX12_readShot N 419 (nI kd) (mk s) = qS1 N (nI n) (mk s4) ∧ RPs T L s4 (tkE T L e) (X.1 6) X.2.2.2.2 ∧ s4.1 422 8 = nI n ∧ (∀ j, j < 1 → s4.1 (423 + j) (8 + n) = nI kd) ∧ Fr (fun x j => rE x j ∨ (x = 423 ∧ j = 8 + n)) s s4 := by
      intro s hs
      obtain ⟨s2, a1, a2, a3⟩ := r_an0 (N := N) (i := 0) (m := 8) (v := n) (x := 0) (y := 8) hN1 hL hT he rfl rfl (by omega) (by rw [hs.2.1 0 (by omega), hn9]) (by omega) (by omega) c hs.1
      have l2 := RLn_E hs.2 a3
      have k8 : s2.1 422 8 = nI n := by rw [← hn9]; exact l2.1 0 (by omega)
      have a8 : aI (mk s2) 422 (8 : Int32) = some (s2.1 422 8) := a422 (i := 8) (by omega)
      refine ⟨sI s2 423 (8 + n) (nI kd), ?_, RPs_sh a2 (by omega) (by omega) _, ?_, fun j hj => ?_, Fr_t (Fr_m a3 (fun x j q => Or.inl q)) (Fr_sI (Or.inr ⟨rfl, rfl⟩))⟩
      · rw [qS0, cV12, a1, cS_l, if_pos (by decide), gR12 3 422 rfl rfl, ob_s, a8, ob_s, k8, gR12 4 423 rfl rfl, ob_s, e8n, tRow (by omega) (by omega) (by omega), ob_s]
      · rw [sI_1, if_neg (by omega)]; exact k8
      · rw [show j = 0 by omega]; exact sI_at _ _ _ _
    match o, ho with
    | .inl (f, e1), ho =>
      obtain ⟨h0, h1, h2⟩ := ho
      refine ⟨.inl (f, e1), h0, fun s hs => ?_, fun s hs => ?_⟩
      · obtain ⟨s4, a1, a2, a3, a4, a5⟩ := cS1 s hs
        obtain ⟨s', b1, b2, b3, b4⟩ := h1 s4 a2 a3
        refine ⟨s', a1.trans b1, b2, b3, Fr_t (Fr_m a5 (fun x j q => ?_)) (Fr_m b4 (cSh_F hn p))⟩
        rcases q with q | q
        · exact cE_F p x j q
        · unfold cF; omega
      · obtain ⟨s4, a1, a2, a3, a4, a5⟩ := rS1 s hs
        obtain ⟨s', b1, b2, b3, b4⟩ := h2 s4 a2 a3 a4
        refine ⟨s', a1.trans b1, b2, b3, Fr_t (Fr_m a5 (fun x j q => ?_)) (Fr_m b4 rH_F)⟩
        rcases q with q | q
        · exact rE_F x j q
        · unfold rF; omega
    | .inr (e1, a1), ho =>
      obtain ⟨⟨h01, h02, h03, h04⟩, h1, h2⟩ := ho
      refine ⟨.inr (e1, (upN X.1 0 (n + 1), inA2 X.2.1 n a1, X.2.2)), ⟨by omega, h02, ?_, fun i hi => (by
        show upN X.1 0 (n + 1) (8 + i) = X.1 (8 + i)
        rw [upN_ne _ _ (by omega)])⟩, fun s hs => ?_, fun s hs => ?_⟩
      · have u0 : upN X.1 0 (n + 1) 0 = n + 1 := upN_at _ _ _
        refine ⟨by show upN X.1 0 (n + 1) 0 ≤ 8; omega, w1, w2, w3, w4, w5, Nat.le_trans w6 (by omega), w7, fun j hj => ?_, fun k hk => ?_, w10, w11, w12⟩
        · show upN X.1 0 (n + 1) (8 + j) ≤ 1
          rw [upN_ne _ _ (by omega)]; exact w8 j hj
        · have hk' : k < n + 1 := by rw [← u0]; exact hk
          by_cases c2 : k = n
          · rw [c2]; exact gS_at hkd (h03 0 (by omega)) h04
          · exact gS_ne a1 c2 (w9 k (by omega))
      · obtain ⟨s4, a1', a2, a3, a4, a5⟩ := cS1 s hs
        obtain ⟨s', b1, b2, b3, b4⟩ := h1 s4 a2 a3
        have f9 : Fr (fun x j => cE p x j ∨ x = p + 8 + n ∨ (x = p ∧ j = 3)) s s' := Fr_t a5 (Fr_m b4 (fun x j q => by rcases q with q | q; exact Or.inl q; exact Or.inr (Or.inl q)))
        refine ⟨s', a1'.trans b1, ⟨b2, ?_⟩, Fr_m f9 (fun x j q => ?_)⟩
        · obtain ⟨l1, l2, l3, l4, l5, l6, l7, l8, l9, l10, l11⟩ := hs.2
          refine ⟨(f9.1 _ _ (by unfold cE; omega)).trans l1, (f9.1 _ _ (by unfold cE; omega)).trans l2, (f9.1 _ _ (by unfold cE; omega)).trans l3, ?_, (f9.1 _ _ (by unfold cE; omega)).trans l5, (f9.1 _ _ (by unfold cE; omega)).trans l6, (f9.1 _ _ (by unfold cE; omega)).trans l7, fun j hj => ?_, fun k hk => ?_, kSky_fr l10 f9 (fun j => by unfold cE; omega), fun i hi => (f9.1 _ _ (by unfold cE; omega)).trans (l11 i hi)⟩
          · show s'.1 p 3 = nI (upN X.1 0 (n + 1) 0)
            rw [upN_at, b4.1 _ _ (by unfold cSh cE; omega)]; exact a4
          · show s'.1 34 (4 + j) = nI (upN X.1 0 (n + 1) (8 + j))
            rw [upN_ne _ _ (by omega)]; exact (f9.1 _ _ (by unfold cE; omega)).trans (l8 j hj)
          · have hk' : k < n + 1 := by rw [← upN_at X.1 0 (n + 1)]; exact hk
            show ShAt s' (p + 8 + k) (inA2 X.2.1 n a1) k
            by_cases c2 : k = n
            · rw [c2]
              unfold ShAt
              rw [inA2_at, inA2_at, inA2_at, inA2_at, inA2_at, inA2_at]
              exact ⟨b3 0 (by omega), b3 1 (by omega), b3 2 (by omega), b3 3 (by omega), b3 4 (by omega), b3 5 (by omega)⟩
            · have := ShAt_o (l9 k (by omega)) f9 (fun j => by unfold cE; omega)
              unfold ShAt at this ⊢
              rw [inA2_ne _ a1 1 c2, inA2_ne _ a1 2 c2, inA2_ne _ a1 3 c2, inA2_ne _ a1 4 c2, inA2_ne _ a1 5 c2, inA2_ne _ a1 6 c2]
              exact this
        · rcases q with q | q
          · exact cE_F p x j q
          · unfold cF; omega
      · obtain ⟨s4, a1', a2, a3, a4, a5⟩ := rS1 s hs
        obtain ⟨s', b1, b2, b3, b5, b4⟩ := h2 s4 a2 a3 a4
        have f9 : Fr (fun x j => rE x j ∨ (423 ≤ x ∧ x ≤ 428 ∧ j = 8 + n) ∨ (x = 422 ∧ j = 8)) s s' := Fr_t (Fr_m a5 (fun x j q => by rcases q with q | q; exact Or.inl q; exact Or.inr (Or.inl (by omega)))) (Fr_m b4 (fun x j q => by rcases q with q | q; exact Or.inl q; exact Or.inr (by omega)))
        refine ⟨s', a1'.trans b1, ⟨b2, ?_⟩, Fr_m f9 (fun x j q => ?_)⟩
        · obtain ⟨l1, l2, l3, l4, l5⟩ := hs.2
          refine ⟨fun i hi => ?_, (f9.1 _ _ (by unfold rE; omega)).trans l2, fun g k g1 g2 hk => ?_, fun m hm => (f9.1 _ _ (by unfold rE; omega)).trans (l4 m hm), fun i hi => ⟨(f9.1 _ _ (by unfold rE; omega)).trans (l5 i hi).1, (f9.1 _ _ (by unfold rE; omega)).trans (l5 i hi).2⟩⟩
          · show s'.1 422 (8 + i) = nI (upN X.1 0 (n + 1) i)
            by_cases c2 : i = 0
            · rw [c2, upN_at]; exact b5
            · rw [upN_ne _ _ c2]; exact (f9.1 _ _ (by unfold rE; omega)).trans (l1 i hi)
          · have hk' : k < n + 1 := by rw [← upN_at X.1 0 (n + 1)]; exact hk
            show s'.1 (422 + g) (8 + k) = inA2 X.2.1 n a1 g k
            by_cases c2 : k = n
            · rw [c2, inA2_at, ← b3 (g - 1) (by omega), show 423 + (g - 1) = 422 + g by omega]
            · rw [inA2_ne _ a1 g c2]; exact (f9.1 _ _ (by unfold rE; omega)).trans (l3 g k g1 g2 (by omega))
        · rcases q with q | q
          · exact rE_F x j q
          · unfold rF; omega
end LSA
