/- needs: 87.acts -/
/-! a new plan, and the beginning -/
def rfP (s : sg) : pln := fun f k => s.1 (422 + f) k
theorem Inv_new {s : sg} {p e : Nat} {X : pX} {fp : Int32} (hp : plA p) (W : WX e X) (he : e ≤ 700) (r3 : s.2.1 0 3 = p) (r4 : s.2.1 0 4 = 20 - p)
    (c0 : s.1 p 0 = nI (X.1 1)) (c1 : s.1 p 1 = nI (X.1 2)) (c2 : s.1 p 2 = nI (X.1 3)) (c3 : s.1 p 3 = nI (X.1 0)) (c4 : s.1 (p + 4) 0 = nI (X.1 4)) (cs : ∀ k, k < X.1 0 → ShAt s (p + 8 + k) X.2.1 k) (ce : ∀ i, i < X.1 4 → s.1 (p + 6) i = nI (X.2.2.2.1 (i + 1))) (cc : ∀ j, j < X.1 6 → s.1 (p + 5) j = trc (X.2.2.2.2 j))
    (m0 : ∀ i, i < 5 → s.1 422 i = nI (X.1 i)) (m1 : ∀ f k, 1 ≤ f → f ≤ 6 → k < X.1 0 → s.1 (422 + f) k = X.2.1 f k) (m2 : ∀ m, m < 480 → s.1 429 m = sk_i (X.2.2.1 m)) (m3 : ∀ i, i < X.1 4 → s.1 430 i = nI (X.2.2.2.1 i) ∧ s.1 431 i = nI (X.2.2.2.1 (i + 1))) (m4 : ∀ j, j < X.1 6 → s.1 432 j = X.2.2.2.2 j)
    (hS : SAt s 38 (fun _ => 0) X.2.2.1) (h5 : ∀ j, j < 15 → s.1 435 j = 0) (a1 : s.1 37 2 = nI 0) (a2 : s.1 37 6 = nI 0) (a3 : s.1 419 28 = nI 0) (a4 : s.1 419 29 = nI 0) (a5 : ∀ j, j < 3 → s.1 433 j = s.1 46 j) (p1 : Pm s 37) (p2 : Pm s 207) (t1 : s.1 0 1 = nI 0) (t2 : s.1 419 16 = nI 0) (f1 : s.1 0 2 = fp) (f2 : s.1 419 25 = fp) (i1 : s.1 0 8 = 0) (i2 : s.1 419 52 = 0) : Inv s := by
  obtain ⟨w0, w1, w2, w3, w4, w5, w6, w7, w8, w9, w10, w11, w12⟩ := W
  have hA : ∀ f k, 1 ≤ f → f ≤ 6 → k < X.1 0 → rfP s f k = X.2.1 f k := m1
  have hSh : ∀ k, k < X.1 0 → ShAt s (p + 1 + 7 + k) (rfP s) k := fun k hk => by
    have := cs k hk
    unfold ShAt at this ⊢
    rw [hA 1 k (by omega) (by omega) hk, hA 2 k (by omega) (by omega) hk, hA 3 k (by omega) (by omega) hk, hA 4 k (by omega) (by omega) hk, hA 5 k (by omega) (by omega) hk, hA 6 k (by omega) (by omega) hk, show p + 1 + 7 + k = p + 8 + k by omega]
    exact this
  have wWp : Wp (rfP s) (X.1 0) (X.1 1) (X.1 2) := by
    refine ⟨w0, m0 0 (by omega), w1.1, w1.2, m0 1 (by omega), w2, m0 2 (by omega), fun k hk => ?_⟩
    obtain ⟨g1, ⟨l, g2, g3, g4⟩, ⟨u, g5, g6⟩, ⟨v, g7, g8⟩, g9⟩ := w9 k hk
    have e3 := hA 3 k (by omega) (by omega) hk
    have e4 := hA 4 k (by omega) (by omega) hk
    have e5 := hA 5 k (by omega) (by omega) hk
    have hl : ln (rfP s) k = l := by unfold ln; rw [e3, g2, nI_clamp (by omega)]
    have hu : fm (rfP s) k = u := by unfold fm; rw [e4, g5, nI_clamp (by omega)]
    have hv : un (rfP s) k = v := by unfold un; rw [e5, g7, nI_clamp (by omega)]
    refine ⟨?_, ?_, ?_, ?_, ?_⟩
    · unfold okS at g1 ⊢
      rw [hA 1 k (by omega) (by omega) hk, hA 2 k (by omega) (by omega) hk]
      exact g1
    · unfold okL
      rw [hl, e3]
      exact ⟨g2, g3, g4⟩
    · rw [hu, e4]
      exact ⟨g5, g6⟩
    · rw [hv, e5]
      exact ⟨g7, g8⟩
    · rw [hA 6 k (by omega) (by omega) hk]
      rcases g9 with g | ⟨j, j1, j2⟩
      · exact Or.inl g
      · exact Or.inr ⟨j, by omega, j2⟩
  have wWa : Wa (rfP s) (X.1 0) := fun k hk => by
    rw [hA 6 k (by omega) (by omega) hk]
    exact (w9 k hk).2.2.2.2
  have wWr : Wr (X.1 4) X.2.2.2.2 X.2.2.2.1 := ⟨w4, w10, fun r hr => by
    obtain ⟨v1, v2, v3⟩ := w12 r hr
    refine ⟨v1, by omega, ?_⟩
    have := v3 X.2.2.2.2 0 0 (fun _ _ _ => rfl) (by omega) rfl
    rw [Nat.zero_add] at this
    exact this⟩
  have hWs : Ws (fun _ => 0) (X.1 0) (X.1 1) := ⟨⟨0, Nat.zero_le _, rfl⟩, Or.inl rfl, ⟨0, Nat.two_pow_pos _, rfl⟩, Or.inl rfl, Or.inl rfl⟩
  refine ⟨p, rfP s, X.1 0, X.1 1, X.1 2, X.1 4, X.2.2.2.2, X.2.2.2.1, (fun _ => 0, X.2.2.1, (0, fun _ _ => 0, fun _ _ => false), (0, fun _ => 0, fun _ => 0, fun _ => false), fun j => s.1 46 j), 0, fun _ => 0, fp, false, (fun _ => 0, X.2.2.1, (0, fun _ _ => 0, fun _ _ => false), (0, fun _ => 0, fun _ => 0, fun _ => false), fun j => s.1 46 j), ?_, ?_, ?_⟩
  · refine ⟨⟨⟨⟨hp, r3, ⟨c0, c1, c3, hSh⟩, hS⟩, c4, fun i hi => ⟨ce i hi, fun j hj => cc j ?_⟩⟩, p1, hS, ⟨a1, fun i hi => absurd hi (Nat.not_lt_zero _)⟩, ⟨a2, fun i hi => absurd hi (Nat.not_lt_zero _)⟩, fun j hj => rfl⟩, r4, c2.trans (m0 3 (by omega)).symm, ⟨t1, fun j hj => absurd hj (Nat.not_lt_zero _)⟩, f1, i1, p2, fun e => by cases e⟩
    have := (w12 i hi).2.1
    omega
  · refine ⟨⟨⟨⟨fun f k _ _ => rfl, fun j hj => h5 j hj, m2⟩, fun r hr => ⟨(m3 r hr).1, (m3 r hr).2, fun j hj => m4 j ?_⟩, m0 4 (by omega)⟩, ⟨a3, fun i hi => absurd hi (Nat.not_lt_zero _)⟩, ⟨a4, fun i hi => absurd hi (Nat.not_lt_zero _)⟩, fun j hj => a5 j hj⟩, ⟨t2, fun j hj => absurd hj (Nat.not_lt_zero _)⟩, f2, i2, fun e => by cases e⟩
    have := (w12 r hr).2.1
    omega
  · exact ⟨wWp, wWa, wWr, ⟨hWs, Nat.zero_le _, fun i hi => absurd hi (Nat.not_lt_zero _), Nat.zero_le _, fun i hi => absurd hi (Nat.not_lt_zero _)⟩, Nat.zero_le _, fun j hj => absurd hj (Nat.not_lt_zero _), fun e => by cases e⟩
theorem Inv_00 : Inv s00 := by
  obtain ⟨r1, r2, r3, r4⟩ := v0_ref
  refine Inv_new (p := 2) (e := 0) (X := pX0) (fp := -1) (Or.inl rfl) WX_0 (by omega) r1 r2 (v0 (by decide)) (v0 (by decide)) (v0 (by decide)) (v0 (by decide)) (v0 (by decide)) (fun k hk => absurd hk (Nat.not_lt_zero _)) (fun k hk => absurd hk (Nat.not_lt_zero _)) (fun k hk => absurd hk (Nat.not_lt_zero _)) (fun i hi => ?_) (fun _ k _ _ hk => absurd hk (Nat.not_lt_zero _)) (fun m hm => v0_sky m hm) (fun k hk => absurd hk (Nat.not_lt_zero _)) (fun k hk => absurd hk (Nat.not_lt_zero _)) ?_ (fun j hj => ?_) (v0 (by decide)) (v0 (by decide)) (v0 (by decide)) (v0 (by decide)) (fun j hj => ?_) ?_ ?_ (v0 (by decide)) (v0 (by decide)) (v0 (by decide)) (v0 (by decide)) (v0 (by decide)) (v0 (by decide))
  · obtain rfl | rfl | rfl | rfl | rfl : i = 0 ∨ i = 1 ∨ i = 2 ∨ i = 3 ∨ i = 4 := by omega
    all_goals exact v0 (by decide)
  · refine ⟨v0 (by decide), v0 (by decide), v0 (by decide), v0 (by decide), v0 (by decide), v0 (by decide), v0 (by decide), fun j hj => ?_, fun m hm => ?_⟩
    · obtain rfl | rfl | rfl | rfl | rfl | rfl | rfl | rfl : j = 0 ∨ j = 1 ∨ j = 2 ∨ j = 3 ∨ j = 4 ∨ j = 5 ∨ j = 6 ∨ j = 7 := by omega
      all_goals exact v0 (by decide)
    · have hz : ∀ i, i < 15 → s00.1 41 i = 0 := fun i hi => by
        obtain rfl | rfl | rfl | rfl | rfl | rfl | rfl | rfl | rfl | rfl | rfl | rfl | rfl | rfl | rfl : i = 0 ∨ i = 1 ∨ i = 2 ∨ i = 3 ∨ i = 4 ∨ i = 5 ∨ i = 6 ∨ i = 7 ∨ i = 8 ∨ i = 9 ∨ i = 10 ∨ i = 11 ∨ i = 12 ∨ i = 13 ∨ i = 14 := by omega
        all_goals exact v0 (by decide)
      show bt (s00.1 41 (m / 32)) (m % 32) = false
      rw [hz _ (by omega), b_0]
  · obtain rfl | rfl | rfl | rfl | rfl | rfl | rfl | rfl | rfl | rfl | rfl | rfl | rfl | rfl | rfl : j = 0 ∨ j = 1 ∨ j = 2 ∨ j = 3 ∨ j = 4 ∨ j = 5 ∨ j = 6 ∨ j = 7 ∨ j = 8 ∨ j = 9 ∨ j = 10 ∨ j = 11 ∨ j = 12 ∨ j = 13 ∨ j = 14 := by omega
    all_goals exact v0 (by decide)
  · obtain rfl | rfl | rfl : j = 0 ∨ j = 1 ∨ j = 2 := by omega
    all_goals exact (v0 (a := 433) (by decide)).trans (v0 (a := 46) (by decide)).symm
  · refine ⟨fun i hi => ⟨i, hi, ?_⟩, fun i j hi hj h => ?_⟩
    · show s00.2.1 42 i = 37 + 10 + 4 * i
      rw [r3 i hi]
    · have h' : s00.2.1 42 i = s00.2.1 42 j := h
      rw [r3 i hi, r3 j hj] at h'
      omega
  · refine ⟨fun i hi => ⟨i, hi, ?_⟩, fun i j hi hj h => ?_⟩
    · show s00.2.1 212 i = 207 + 10 + 4 * i
      rw [r4 i hi]
    · have h' : s00.2.1 212 i = s00.2.1 212 j := h
      rw [r4 i hi, r4 j hj] at h'
      omega
section SP
variable {N : Nat}
theorem st_plan (hN2 : 2000 ≤ N) (x : Int32) : StpI (lwT N Int32.toInt64 exB (fX11_plan N 0 x) (fX12_plan N 419 x)) := by
  intro s hI
  obtain ⟨p, P, n, D, mv, nr, q, b, S, tl, T, fp, hi, S', C, R, W⟩ := hI
  have hN1 : 1000 ≤ N := by omega
  have htl := W.2.2.2.2.1
  have hT := W.2.2.2.2.2.1
  have hp' : p = 2 ∨ p = 18 := C.1.1.1.1
  have hp2 : plA (20 - p) := by
    show 20 - p = 2 ∨ 20 - p = 18
    omega
  by_cases c : 0 ≤ x ∧ x ≤ nI tl
  · obtain ⟨m, hm, rfl⟩ := (in_rng (b := tl) (by omega)).mp c
    obtain ⟨o, ho⟩ := lnLines (N := N) (T := T) (L := m) (p := 20 - p) hN1 (by omega) (fun j hj => hT j (by omega)) hp2 m 0 pX0 0 N N (by omega) (by omega) (by omega) (by omega) (by omega) WX_0
    match o, ho with
    | .inl (f, e1), ho =>
      have hf : 1 ≤ f ∧ f ≤ 4 := ⟨ho.1.1, ho.1.2.1⟩
      have W2 : WI P n D mv nr q b (rfS S 0) 0 T hi S' := ⟨W.1, W.2.1, W.2.2.1, WS_rf 0 W.2.2.2.1, Nat.zero_le _, fun j hj => absurd hj (Nat.not_lt_zero _), W.2.2.2.2.2.2⟩
      refine gT_ok (r := nI f) (p2 := p) (fp2 := nI (tkA T m e1)) R W2 ?_ (fun s R => ?_)
      · obtain ⟨s1, b1, b2, b3, b4, b5⟩ := c_planF (N := N) hN1 htl hm hT hp2 C.2.1 C.2.2.2.1 ho
        have hM : CM s1 p P n D mv nr q b (rfS S 0) := by
          obtain ⟨⟨⟨d1, d2, d3, d4⟩, d5⟩, d6, d7, d8, d9, d10⟩ := C.1
          have no : ∀ y j, (y = 0 ∧ j = 3) ∨ (p ≤ y ∧ y ≤ p + 15) ∨ (37 ≤ y ∧ ¬ (y = 46 ∧ j = 0)) → ¬ cPf (20 - p) y j := fun y j hy g => by unfold cPf at g; omega
          refine ⟨⟨⟨d1, (b5.2.1 _ _ (no _ _ (by omega))).trans d2, CPl_fr d3 W.1.1 b5 (fun y j g1 g2 _ => no _ _ (by omega)), SAt_fr d4 b5 (fun y j g1 g2 => no _ _ (by omega))⟩, CRl_fr d5 b5 (no _ _ (by omega)) (fun j => no _ _ (by omega)) (fun j => no _ _ (by omega))⟩, Pm_fr d6 b5 (fun j => no _ _ (by omega)), SAt_fr d7 b5 (fun y j g1 g2 => no _ _ (by omega)), HsC_fr d8 d6 W.2.2.2.1.2.1 b5 (fun j => no _ _ (by omega)) (no _ _ (by omega)) (fun y j g1 g2 => no _ _ (by omega)), SnC_fr d9 b5 (no _ _ (by omega)) (fun y j g1 g2 => no _ _ (by omega)), fun j hj => ?_⟩
          show s1.1 46 j = if j = 0 then S.2.2.2.2 0 + 1 else S.2.2.2.2 j
          by_cases c2 : j = 0
          · have d0 : s.1 46 0 = S.2.2.2.2 0 := d10 0 (by omega)
            rw [if_pos c2, c2, b4, d0]
          · rw [if_neg c2]
            exact (b5.1 _ _ (no _ _ (by omega))).trans (d10 j hj)
        have no2 : ∀ y j, (y = 0 ∧ ¬ j = 1 ∧ ¬ j = 2) ∨ (p ≤ y ∧ y ≤ p + 15) ∨ 47 ≤ y → ¬ cPf (20 - p) y j := fun y j hy g => by unfold cPf at g; omega
        exact ⟨s1, b1, ⟨hM, (b5.2.1 _ _ (no2 _ _ (by omega))).trans C.2.1, (b5.1 _ _ (no2 _ _ (by omega))).trans C.2.2.1, ⟨b2, fun j hj => absurd hj (Nat.not_lt_zero _)⟩, b3, (b5.1 _ _ (no2 _ _ (by omega))).trans C.2.2.2.2.2.1, Pm_fr C.2.2.2.2.2.2.1 b5 (fun j => no2 _ _ (by omega)), fun e => ScC_fr (C.2.2.2.2.2.2.2 e) (W.2.2.2.2.2.2 e).2.1 b5 (fun y j g1 g2 => no2 _ _ (by omega))⟩, Fr_m b5 (fun y j g => by unfold cPf at g; unfold loF; omega)⟩
      · obtain ⟨s3, b1, b2, b3, b4, b5, b6⟩ := r_planF (N := N) hN1 htl hm hT R.2.1 ho
        have no : ∀ y j, (422 ≤ y ∧ y ≤ 428 ∧ j < 8) ∨ (y = 429 ∧ j < 480) ∨ ((y = 430 ∨ y = 431) ∧ j < 4) ∨ (y = 432 ∧ j < 700) ∨ (y = 433 ∧ ¬ j = 0) ∨ 434 ≤ y ∨ (y = 419 ∧ 26 ≤ j) → ¬ rPf y j := fun y j hy g => by unfold rPf rP0 rF at g; omega
        have hr := W.2.2.1.2.2
        refine ⟨s3, b1, b2, ⟨⟨⟨⟨fun f k g1 g2 => (b6.1 _ _ (no _ _ (by omega))).trans (R.1.1.1.1 f k g1 g2), fun j hj => (b6.1 _ _ (no _ _ (by omega))).trans (R.1.1.1.2.1 j hj), fun m hm => (b6.1 _ _ (no _ _ (by omega))).trans (R.1.1.1.2.2 m hm)⟩, fun r hr' => ⟨(b6.1 _ _ (no _ _ (by have := W.2.2.1.1; omega))).trans (R.1.1.2.1 r hr').1, (b6.1 _ _ (no _ _ (by have := W.2.2.1.1; omega))).trans (R.1.1.2.1 r hr').2.1, fun j hj => (b6.1 _ _ (no _ _ (by have := (hr r hr').2.1; omega))).trans ((R.1.1.2.1 r hr').2.2 j hj)⟩, (b6.1 _ _ (no _ _ (by omega))).trans R.1.1.2.2⟩, HsR_fr R.1.2.1 b6 (no _ _ (by omega)) (fun j => no _ _ (by omega)), SnR_fr R.1.2.2.1 b6 (no _ _ (by omega)) (fun y j g1 g2 => no _ _ (by omega)), fun j hj => ?_⟩, ⟨b3, fun j hj => absurd hj (Nat.not_lt_zero _)⟩, b4, (b6.1 _ _ (no _ _ (by omega))).trans R.2.2.2.1, fun e => ImR_fr (R.2.2.2.2 e) b6 (fun y j g => no _ _ (by omega))⟩, Fr_m b6 (fun y j g => by unfold rPf rP0 rF at g; unfold hiF; omega)⟩
        show s3.1 433 j = if j = 0 then S.2.2.2.2 0 + 1 else S.2.2.2.2 j
        by_cases c2 : j = 0
        · have d0 : s.1 433 0 = S.2.2.2.2 0 := R.1.2.2.2 0 (by omega)
          rw [if_pos c2, c2, b5, d0]
        · rw [if_neg c2]
          exact (b6.1 _ _ (no _ _ (by omega))).trans (R.1.2.2.2 j hj)
    | .inr (e1, X1), ho =>
      obtain ⟨s1, b1, b2, b3, b4, b5, b6, b7, b8, b9, b10, b11, b12⟩ := c_planG (N := N) hN1 htl hm hT hp2 C.2.1 C.2.2.2.1 ho
      have f1 : Fr loF s s1 := Fr_m b12 (fun y j g => by unfold cPg sc0 at g; unfold loF; omega)
      have R1 := RI_L (RI_lo R f1) 0 ((0 : Int32).toInt64)
      obtain ⟨s4, s3, d1, d2, d3, d4, d5, d6, d7, d8, d9, d10, d11⟩ := r_planG (N := N) (s := sL s1 0 ((0 : Int32).toInt64)) hN1 htl hm hT R1.2.1 ho
      have f3 : Fr hiF (sL s1 0 ((0 : Int32).toInt64)) s3 := Fr_m d11 (fun y j g => by unfold rTk rP0 rF at g; unfold hiF; omega)
      have lo : ∀ y j, y < 419 → s3.1 y j = s1.1 y j := fun y j hy => f3.1 _ _ (by unfold hiF; omega)
      have lo2 : ∀ y j, y < 419 → s3.2.1 y j = s1.2.1 y j := fun y j hy => f3.2.1 _ _ (by unfold hiF; omega)
      have WX1 := ho.1.2
      have b7' : CL (sL s1 0 ((0 : Int32).toInt64)) (20 - p) X1 := b7
      have b9' : SAt (sL s1 0 ((0 : Int32).toInt64)) 38 (fun _ => 0) X1.2.2.1 := b9
      have g8 : ∀ y j, 422 ≤ y → y ≤ 428 → j < 8 → s3.1 y j = s4.1 y (8 + j) := fun y j h1 h2 hj => by
        have hh : hfN y = 8 := by unfold hfN; rw [if_pos h2]
        have := d3 y j h1 (by omega) (by rw [hh]; exact hj)
        rw [hh] at this
        exact this
      have g4 : ∀ y j, (y = 430 ∨ y = 431) → j < 4 → s3.1 y j = s4.1 y (4 + j) := fun y j h1 hj => by
        have hh : hfN y = 4 := by unfold hfN; rw [if_neg (by omega), if_neg (by omega), if_pos (by omega)]
        have := d3 y j (by omega) (by omega) (by rw [hh]; exact hj)
        rw [hh] at this
        exact this
      have kept : ∀ y j, 42 ≤ y → y < 419 → s3.1 y j = s.1 y j := fun y j h1 h2 => (lo y j h2).trans (b12.1 _ _ (by unfold cPg sc0; omega))
      have kept2 : ∀ y j, 42 ≤ y → y < 419 → s3.2.1 y j = s.2.1 y j := fun y j h1 h2 => (lo2 y j h2).trans (b12.2.1 _ _ (by unfold cPg sc0; omega))
      have hPm : ∀ c, c = 37 ∨ c = 207 → Pm s c → Pm s3 c := fun c hc h => ⟨fun i hi => by rw [kept2 _ _ (by omega) (by omega)]; exact h.1 i hi, fun i j hi hj g => h.2 i j hi hj (by rw [kept2 _ _ (by omega) (by omega), kept2 _ _ (by omega) (by omega)] at g; exact g)⟩
      refine ⟨s3, Inv_new (p := 20 - p) (e := e1) (X := X1) (fp := -1) hp2 WX1 (by have := ho.1.1; omega) ((lo2 _ _ (by omega)).trans b5) ?_ ((lo _ _ (by omega)).trans b7.1) ((lo _ _ (by omega)).trans b7.2.1) ((lo _ _ (by omega)).trans b7.2.2.1) ((lo _ _ (by omega)).trans b7.2.2.2.1) ((lo _ _ (by omega)).trans b7.2.2.2.2.2.2.1) (fun k hk => ShAt_o (b7'.2.2.2.2.2.2.2.2.1 k hk) f3 (fun j => by have := WX1.1; unfold hiF; omega)) (fun i hi => (lo _ _ (by omega)).trans (b7.2.2.2.2.2.2.2.2.2.2 i hi)) (fun j hj => (lo _ _ (by omega)).trans (b8 j hj)) (fun i hi => (g8 422 i (by omega) (by omega) (by omega)).trans (d1.2.1 i (by omega))) (fun f k h1 h2 hk => (g8 (422 + f) k (by omega) (by omega) (by have := WX1.1; omega)).trans (d1.2.2.2.1 f k h1 h2 hk)) (fun m hm => ?_) (fun i hi => ?_) (fun j hj => ?_) (SAt_fr b9' f3 (fun y j h1 h2 => by unfold hiF; omega)) d4 ((lo _ _ (by omega)).trans b10) ((lo _ _ (by omega)).trans b11) d5 d6 (fun j hj => ?_) (hPm 37 (Or.inl rfl) C.1.2.1) (hPm 207 (Or.inr rfl) C.2.2.2.2.2.2.1) ((lo _ _ (by omega)).trans b2) d9 ((lo _ _ (by omega)).trans b3) d10 ((lo _ _ (by omega)).trans b4) d7, ?_⟩
      · have := C.1.1.1.2.1
        rw [lo2 _ _ (by omega), b6, this]
        omega
      · have hh : hfN 429 = 480 := rfl
        have h1 := d3 429 m (by omega) (by omega) (by rw [hh]; exact hm)
        rw [hh] at h1
        exact h1.trans (d1.2.2.2.2.1 m hm)
      · have h4 := WX1.2.2.2.2.1
        have h1 := d1.2.2.2.2.2 i hi
        exact ⟨(g4 430 i (Or.inl rfl) (by omega)).trans h1.1, (g4 431 i (Or.inr rfl) (by omega)).trans h1.2⟩
      · have h6 := WX1.2.2.2.2.2.2.1
        have h9 := ho.1.1
        have hh : hfN 432 = 700 := rfl
        have h1 := d3 432 j (by omega) (by omega) (by rw [hh]; omega)
        rw [hh] at h1
        exact h1.trans (d1.1.2.2.2.2.2 j hj)
      · have k1 : s3.1 433 j = s1.1 433 j := d11.1 _ _ (by unfold rTk rP0 rF; omega)
        have k2 : s1.1 433 j = s.1 433 j := f1.1 _ _ (by unfold loF; omega)
        rw [k1, k2, kept _ _ (by omega) (by omega), R.1.2.2.2 j hj]
        exact (C.1.2.2.2.2.2 j hj).symm
      · exact lwT_ok b1 d2 d8 d11.2.2
  · have hx : x < 0 ∨ nI tl < x := by
      by_cases c2 : x < 0
      · exact Or.inl c2
      · refine Or.inr ?_
        rw [i32_lt] at c2 ⊢
        by_cases c3 : (nI tl).toInt < x.toInt
        · exact c3
        · exact absurd ⟨i32_le.mpr (by have e0 : (0 : Int32).toInt = 0 := by decide
                                       omega), i32_le.mpr (by omega)⟩ c
    exact gT_ex (e := 0) (t := 1) (r := 0) W C R (c0_C (c_planX htl C.2.2.2.1 hx)) ex0 (by omega) (fun s R => r1_R (r_planX htl R.2.1 hx))
end SP
