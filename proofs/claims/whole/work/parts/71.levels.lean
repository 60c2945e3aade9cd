/- needs: 70.parse -/
/-! what reading gives: a fault and its place, or how far it went and what was laid -/
abbrev oT : Type := (Nat × Nat) ⊕ (Nat × Nat × (Nat → Int32))
theorem wfc_s (q : Nat → Int32) (f i h : Nat) : wfc q (f + 1) i h = ((-20 < q i ∧ -9 < q i ∧ h < 40 ∧ wfc q f (i + 1) (h + 1)) ∨ (q i = -28 ∧ 1 ≤ h ∧ wfc q f (i + 1) h) ∨ (opq (q i) ∧ 2 ≤ h ∧ wfc q f (i + 1) (h - 1))) := rfl
/-- what was laid from k up to k1 gives one number more, d more at the most on the way -/
def WL (Q : Nat → Int32) (k k1 d : Nat) : Prop := ∀ (Q2 : Nat → Int32) (f h : Nat), (∀ j, k ≤ j → j < k1 → Q2 j = Q j) → h + d < 40 → wfc Q2 f k1 (h + 1) → wfc Q2 (f + (k1 - k)) k h
theorem up1_at (Q : Nat → Int32) (k : Nat) (x : Int32) : up1 Q k x k = x := by unfold up1; rw [if_pos rfl]
theorem up1_ne (Q : Nat → Int32) {k j : Nat} (x : Int32) (h : ¬ j = k) : up1 Q k x j = Q j := by unfold up1; rw [if_neg h]
theorem WL_num {Q : Nat → Int32} {k : Nat} {v : Int32} (h1 : -20 < v) (h2 : -9 < v) : WL (up1 Q k v) k (k + 1) 0 := by
  intro Q2 f h hq hh hw
  have e1 : Q2 k = v := (hq k (by omega) (by omega)).trans (up1_at Q k v)
  rw [show k + 1 - k = 1 by omega, wfc_s, e1]
  exact Or.inl ⟨h1, h2, by omega, hw⟩
theorem WL_mono {Q : Nat → Int32} {k k1 d D : Nat} (h : WL Q k k1 d) (hd : d ≤ D) : WL Q k k1 D := fun Q2 f h2 hq hh hw => h Q2 f h2 hq (by omega) hw
theorem WL_bin {Q Q2 : Nat → Int32} {k0 k k2 d d2 D : Nat} {g : Int32} (h1 : WL Q k0 k d) (h2 : WL Q2 k k2 d2) (ha : ∀ j, j < k → Q2 j = Q j) (hg : opq g) (hd : d ≤ D) (hd2 : d2 + 1 ≤ D) (hk : k0 ≤ k) (hk2 : k ≤ k2) : WL (up1 Q2 k2 g) k0 (k2 + 1) D := by
  intro Q3 f h hq hh hw
  have e1 : Q3 k2 = g := (hq k2 (by omega) (by omega)).trans (up1_at Q2 k2 g)
  have w1 : wfc Q3 (f + 1) k2 (h + 1 + 1) := by
    rw [wfc_s, e1]
    exact Or.inr (Or.inr ⟨hg, by omega, hw⟩)
  have w2 := h2 Q3 (f + 1) (h + 1) (fun j g1 g2 => (hq j (by omega) (by omega)).trans (up1_ne Q2 g (by omega))) (by omega) w1
  have w3 := h1 Q3 _ h (fun j g1 g2 => ((hq j (by omega) (by omega)).trans (up1_ne Q2 g (by omega))).trans (ha j g2)) (by omega) w2
  rw [show f + (k2 + 1 - k0) = f + 1 + (k2 - k) + (k - k0) by omega]
  exact w3
theorem WL_not {Q : Nat → Int32} {k0 k d : Nat} (h1 : WL Q k0 k d) (hk : k0 ≤ k) : WL (up1 Q k (-28)) k0 (k + 1) d := by
  intro Q3 f h hq hh hw
  have e1 : Q3 k = -28 := (hq k (by omega) (by omega)).trans (up1_at Q k _)
  have w1 : wfc Q3 (f + 1) k (h + 1) := by
    rw [wfc_s, e1]
    exact Or.inr (Or.inl ⟨rfl, by omega, hw⟩)
  have w3 := h1 Q3 (f + 1) h (fun j g1 g2 => (hq j (by omega) (by omega)).trans (up1_ne Q _ (by omega))) (by omega) w1
  rw [show f + (k + 1 - k0) = f + 1 + (k - k0) by omega]
  exact w3
def okO (L e k : Nat) (Q : Nat → Int32) (d : Nat) : oT → Prop
  | .inl (f, e1) => 1 ≤ f ∧ f ≤ 4 ∧ e1 ≤ L
  | .inr (e1, k1, Q1) => e < e1 ∧ e1 ≤ L ∧ k < k1 ∧ k1 + e ≤ k + e1 ∧ (∀ j, j < k → Q1 j = Q j) ∧ WL Q1 k k1 d
def cO (T : Nat → Nat) (L p : Nat) (F : mm_C → mR Unit) (e k : Nat) (Q : Nat → Int32) : oT → Prop
  | .inl (f, e1) => ∀ s, CPs T L p s e k Q → ∃ s', F (mk s) = some (.inr 0, mk s') ∧ s'.1 34 1 = nI f ∧ s'.1 34 0 = nI (tkA T L e1) ∧ Fr (cE p) s s'
  | .inr (e1, k1, Q1) => ∀ s, CPs T L p s e k Q → ∃ s', F (mk s) = some (.inl (), mk s') ∧ CPs T L p s' e1 k1 Q1 ∧ Fr (cE p) s s'
/-- G goes over into K -/
def rK (T : Nat → Nat) (L : Nat) (G K : mm_C → mR Unit) (e k : Nat) (Q : Nat → Int32) : oT → Prop
  | .inl (f, e1) => ∀ s, RPs T L s e k Q → ∃ s', G (mk s) = K (mk s') ∧ s'.1 419 23 = nI f ∧ s'.1 419 24 = nI (tkA T L e1) ∧ Fr rE s s'
  | .inr (e1, k1, Q1) => ∀ s, RPs T L s e k Q → ∃ s', G (mk s) = K (mk s') ∧ RPs T L s' e1 k1 Q1 ∧ Fr rE s s'
def kU (c : mm_C) : mR Unit := some (.inl (), c)
/-- a part of an expression can begin with this token -/
def may (T : Nat → Nat) (L e : Nat) : Bool := decide (tkK T L e = 2 ∨ tkK T L e = 1 ∨ isS T L e 40 = true)
def Lv (T : Nat → Nat) (L p d : Nat) (F G : mm_C → mR Unit) : Prop := ∀ e k Q, e ≤ L → k ≤ e → ∃ o, okO L e k Q d o ∧ (may T L e = false → o = .inl (1, e)) ∧ cO T L p F e k Q o ∧ rK T L G kU e k Q o
section LV
variable {N : Nat} {T : Nat → Nat} {L p : Nat}
theorem cO_step {F F2 : mm_C → mR Unit} {e k e2 k2 : Nat} {Q Q2 : Nat → Int32} (h : ∀ s, CPs T L p s e k Q → ∃ s4, F (mk s) = F2 (mk s4) ∧ CPs T L p s4 e2 k2 Q2 ∧ Fr (cE p) s s4) : ∀ o, cO T L p F2 e2 k2 Q2 o → cO T L p F e k Q o
  | .inl (f, e1), h2 => fun s hs => by
    obtain ⟨s4, a1, a2, a3⟩ := h s hs
    obtain ⟨s', b1, b2, b3, b4⟩ := h2 s4 a2
    exact ⟨s', a1.trans b1, b2, b3, Fr_t a3 b4⟩
  | .inr (e1, k1, Q1), h2 => fun s hs => by
    obtain ⟨s4, a1, a2, a3⟩ := h s hs
    obtain ⟨s', b1, b2, b4⟩ := h2 s4 a2
    exact ⟨s', a1.trans b1, b2, Fr_t a3 b4⟩
theorem rK_step {G G2 K : mm_C → mR Unit} {e k e2 k2 : Nat} {Q Q2 : Nat → Int32} (h : ∀ s, RPs T L s e k Q → ∃ s4, G (mk s) = G2 (mk s4) ∧ RPs T L s4 e2 k2 Q2 ∧ Fr rE s s4) : ∀ o, rK T L G2 K e2 k2 Q2 o → rK T L G K e k Q o
  | .inl (f, e1), h2 => fun s hs => by
    obtain ⟨s4, a1, a2, a3⟩ := h s hs
    obtain ⟨s', b1, b2, b3, b4⟩ := h2 s4 a2
    exact ⟨s', a1.trans b1, b2, b3, Fr_t a3 b4⟩
  | .inr (e1, k1, Q1), h2 => fun s hs => by
    obtain ⟨s4, a1, a2, a3⟩ := h s hs
    obtain ⟨s', b1, b2, b4⟩ := h2 s4 a2
    exact ⟨s', a1.trans b1, b2, Fr_t a3 b4⟩
theorem bloop (hN1 : 1000 ≤ N) (hL : L ≤ 700) (hT : ∀ j, j < L → T j < 256) (hp : plA p) {tst : Nat → Option Int32} {d D : Nat} (hd : d + 1 ≤ D) {lC : Nat → Int32 → mm_C → mR Unit} {lR : Nat → mm_C → mR Unit} {F G : mm_C → mR Unit}
    (hO : ∀ e g, tst e = some g → opq g ∧ ¬ tkK T L e = 0) (hF : Lv T L p d F G)
    (C0 : ∀ f i s e k Q, CPs T L p s e k Q → i < 700 → e ≤ L → tst e = none → lC (f + 1) (nI i) (mk s) = some (.inl (), mk s))
    (C1 : ∀ f i s e k Q g s2 s3, CPs T L p s e k Q → i < 700 → e ≤ L → tst e = some g → fX10_advances N 35 (mk s) = some (.inl (), mk s2) → F (mk s2) = some (.inr 0, mk s3) → lC (f + 1) (nI i) (mk s) = some (.inr 0, mk s3))
    (C2 : ∀ f i s e k Q g s2 s3 s4, CPs T L p s e k Q → i < 700 → e ≤ L → tst e = some g → fX10_advances N 35 (mk s) = some (.inl (), mk s2) → F (mk s2) = some (.inl (), mk s3) → s3.2.1 34 3 = p → fX4_emits N (p + 4) (trc g) (mk s3) = some (.inl (), mk s4) → lC (f + 1) (nI i) (mk s) = lC f (nI (i + 1)) (mk s4))
    (R0 : ∀ f s e k Q, RPs T L s e k Q → e ≤ L → tst e = none → lR (f + 1) (mk s) = some (.inl (), mk s))
    (Rb : ∀ f s, ¬ s.1 419 23 = 0 → lR (f + 1) (mk s) = some (.inl (), mk s))
    (R1 : ∀ f s e k Q g s2 s3 s4, RPs T L s e k Q → e ≤ L → tst e = some g → fX12_stepOn N 419 (mk s) = some (.inl (), mk s2) → G (mk s2) = some (.inl (), mk s3) → fX12_lay N 419 g (mk s3) = some (.inl (), mk s4) → lR (f + 1) (mk s) = lR f (mk s4))
    {e0 k0 : Nat} {Q0 : Nat → Int32} (hk0 : k0 ≤ e0) : ∀ (m e k : Nat) (Q : Nat → Int32) (i f fr : Nat), L - e ≤ m → L - e < f → L - e < fr → i < e → okO L e0 k0 Q0 D (.inr (e, k, Q)) → ∃ o, okO L e0 k0 Q0 D o ∧ cO T L p (lC f (nI i)) e k Q o ∧ rK T L (lR fr) kU e k Q o := by
  intro m
  induction m with
  | zero =>
    intro e k Q i f fr hm hf hfr hi ho
    obtain ⟨o1, o2, o3, o4, o5, o6⟩ := ho
    have e9 : tst e = none := by
      cases ht : tst e with
      | none => rfl
      | some g =>
        have hA := tkA_le (T := T) o2
        have := tkK_A (hO e g ht).2
        omega
    obtain ⟨f2, rfl⟩ : ∃ f2, f = f2 + 1 := ⟨f - 1, by omega⟩
    obtain ⟨f3, rfl⟩ : ∃ f3, fr = f3 + 1 := ⟨fr - 1, by omega⟩
    exact ⟨.inr (e, k, Q), ⟨o1, o2, o3, o4, o5, o6⟩, fun s hs => ⟨s, C0 f2 i s e k Q hs (by omega) o2 e9, hs, Fr_r _ _⟩, fun s hs => ⟨s, R0 f3 s e k Q hs o2 e9, hs, Fr_r _ _⟩⟩
  | succ m ih =>
    intro e k Q i f fr hm hf hfr hi ho
    obtain ⟨o1, o2, o3, o4, o5, o6⟩ := ho
    obtain ⟨f2, rfl⟩ : ∃ f2, f = f2 + 1 := ⟨f - 1, by omega⟩
    obtain ⟨f3, rfl⟩ : ∃ f3, fr = f3 + 1 := ⟨fr - 1, by omega⟩
    cases ht : tst e with
    | none => exact ⟨.inr (e, k, Q), ⟨o1, o2, o3, o4, o5, o6⟩, fun s hs => ⟨s, C0 f2 i s e k Q hs (by omega) o2 ht, hs, Fr_r _ _⟩, fun s hs => ⟨s, R0 f3 s e k Q hs o2 ht, hs, Fr_r _ _⟩⟩
    | some g =>
      obtain ⟨hg, hk9⟩ := hO e g ht
      have hA := tkA_le (T := T) o2
      have hE := tkE_le (T := T) o2
      have hE2 := tkE_gt o2 hk9
      have hA2 := tkK_A hk9
      obtain ⟨o, p1, _, p2, p3⟩ := hF (tkE T L e) k Q hE.2 (by omega)
      match o, p1, p2, p3 with
      | .inl (fl, e2), p1, p2, p3 =>
        have p1' : 1 ≤ fl ∧ fl ≤ 4 ∧ e2 ≤ L := p1
        refine ⟨.inl (fl, e2), p1, fun s hs => ?_, fun s hs => ?_⟩
        · obtain ⟨s2, a1, a2, a3⟩ := CPs_adv (N := N) hN1 hL hT hp o2 hs
          obtain ⟨s3, b1, b2, b3, b4⟩ := p2 s2 a2
          exact ⟨s3, C1 f2 i s e k Q g s2 s3 hs (by omega) o2 ht a1 b1, b2, b3, Fr_t a3 b4⟩
        · obtain ⟨s2, a1, a2, a3⟩ := RPs_step (N := N) hN1 hL hT o2 hs
          obtain ⟨s3, b1, b2, b3, b4⟩ := p3 s2 a2
          have hb : ¬ s3.1 419 23 = 0 := by rw [b2]; exact nI_b p1'.1 p1'.2.1
          obtain ⟨f4, rfl⟩ : ∃ f4, f3 = f4 + 1 := ⟨f3 - 1, by omega⟩
          exact ⟨s3, (R1 (f4 + 1) s e k Q g s2 s3 s3 hs o2 ht a1 b1 (rb_lay hb)).trans (Rb f4 s3 hb), b2, b3, Fr_t a3 b4⟩
      | .inr (e2, k2, Q2), p1, p2, p3 =>
        obtain ⟨q1, q2, q3, q4, q5, q6⟩ := p1
        obtain ⟨o, r1, r2, r3⟩ := ih e2 (k2 + 1) (up1 Q2 k2 g) (i + 1) f2 f3 (by omega) (by omega) (by omega) (by omega) ⟨by omega, q2, by omega, by omega, fun j hj => (up1_ne Q2 g (by omega)).trans ((q5 j (by omega)).trans (o5 j hj)), WL_bin o6 q6 q5 hg (Nat.le_refl _) (by omega) (by omega) (by omega)⟩
        refine ⟨o, r1, cO_step (fun s hs => ?_) o r2, rK_step (fun s hs => ?_) o r3⟩
        · obtain ⟨s2, a1, a2, a3⟩ := CPs_adv (N := N) hN1 hL hT hp o2 hs
          obtain ⟨s3, b1, b2, b3⟩ := p2 s2 a2
          obtain ⟨s4, c1, c2, c3⟩ := c_emit (N := N) hp (by omega) b2 (g := g) rfl
          exact ⟨s4, C2 f2 i s e k Q g s2 s3 s4 hs (by omega) o2 ht a1 b1 b2.1 c1, c2, Fr_t a3 (Fr_t b3 c3)⟩
        · obtain ⟨s2, a1, a2, a3⟩ := RPs_step (N := N) hN1 hL hT o2 hs
          obtain ⟨s3, b1, b2, b3⟩ := p3 s2 a2
          obtain ⟨s4, c1, c2, c3⟩ := r_lay (N := N) (by omega) b2 g
          exact ⟨s4, R1 f3 s e k Q g s2 s3 s4 hs o2 ht a1 b1 c1, c2, Fr_t a3 (Fr_t b3 c3)⟩
/-- a first part, and then the loop -/
theorem Lv_loop (hN1 : 1000 ≤ N) (hL : L ≤ 700) (hT : ∀ j, j < L → T j < 256) (hp : plA p) {tst : Nat → Option Int32} {d : Nat} {lC : Nat → Int32 → mm_C → mR Unit} {lR : Nat → mm_C → mR Unit} {F G F2 G2 : mm_C → mR Unit}
    (hO : ∀ e g, tst e = some g → opq g ∧ ¬ tkK T L e = 0) (hF : Lv T L p d F G)
    (C0 : ∀ f i s e k Q, CPs T L p s e k Q → i < 700 → e ≤ L → tst e = none → lC (f + 1) (nI i) (mk s) = some (.inl (), mk s))
    (C1 : ∀ f i s e k Q g s2 s3, CPs T L p s e k Q → i < 700 → e ≤ L → tst e = some g → fX10_advances N 35 (mk s) = some (.inl (), mk s2) → F (mk s2) = some (.inr 0, mk s3) → lC (f + 1) (nI i) (mk s) = some (.inr 0, mk s3))
    (C2 : ∀ f i s e k Q g s2 s3 s4, CPs T L p s e k Q → i < 700 → e ≤ L → tst e = some g → fX10_advances N 35 (mk s) = some (.inl (), mk s2) → F (mk s2) = some (.inl (), mk s3) → s3.2.1 34 3 = p → fX4_emits N (p + 4) (trc g) (mk s3) = some (.inl (), mk s4) → lC (f + 1) (nI i) (mk s) = lC f (nI (i + 1)) (mk s4))
    (R0 : ∀ f s e k Q, RPs T L s e k Q → e ≤ L → tst e = none → lR (f + 1) (mk s) = some (.inl (), mk s))
    (Rb : ∀ f s, ¬ s.1 419 23 = 0 → lR (f + 1) (mk s) = some (.inl (), mk s))
    (R1 : ∀ f s e k Q g s2 s3 s4, RPs T L s e k Q → e ≤ L → tst e = some g → fX12_stepOn N 419 (mk s) = some (.inl (), mk s2) → G (mk s2) = some (.inl (), mk s3) → fX12_lay N 419 g (mk s3) = some (.inl (), mk s4) → lR (f + 1) (mk s) = lR f (mk s4))
    (HF : ∀ s, F2 (mk s) = cS (F (mk s)) fun (_ : Unit) c1 => lC N (nI 0) c1) (HG : ∀ s, G2 (mk s) = cS (G (mk s)) fun (_ : Unit) c1 => lR N c1) : Lv T L p (d + 1) F2 G2 := by
  intro e k Q he hk
  obtain ⟨o, p1, p0, p2, p3⟩ := hF e k Q he hk
  obtain ⟨N2, hN2⟩ : ∃ N2, N = N2 + 1 := ⟨N - 1, by omega⟩
  match o, p1, p0, p2, p3 with
  | .inl (fl, e2), p1, p0, p2, p3 =>
    have p1' : 1 ≤ fl ∧ fl ≤ 4 ∧ e2 ≤ L := p1
    refine ⟨.inl (fl, e2), p1, p0, fun s hs => ?_, fun s hs => ?_⟩
    · obtain ⟨s3, b1, b2⟩ := p2 s hs
      exact ⟨s3, by rw [HF, b1, cS_r], b2⟩
    · obtain ⟨s3, b1, b2, b3⟩ := p3 s hs
      have hb : ¬ s3.1 419 23 = 0 := by rw [b2]; exact nI_b p1'.1 p1'.2.1
      refine ⟨s3, ?_, b2, b3⟩
      have b1' : G (mk s) = some (.inl (), mk s3) := b1
      rw [HG, b1', cS_l, hN2, Rb N2 s3 hb]
      rfl
  | .inr (e2, k2, Q2), p1, p0, p2, p3 =>
    obtain ⟨q1, q2, q3, q4, q5, q6⟩ := p1
    obtain ⟨o, r1, r2, r3⟩ := bloop (N := N) hN1 hL hT hp (D := d + 1) (by omega) hO hF C0 C1 C2 R0 Rb R1 hk (L - e2) e2 k2 Q2 0 N N (by omega) (by omega) (by omega) (by omega) ⟨q1, q2, q3, q4, q5, WL_mono q6 (by omega)⟩
    refine ⟨o, r1, fun hm => ?_, cO_step (fun s hs => ?_) o r2, rK_step (fun s hs => ?_) o r3⟩
    · have := p0 hm
      cases this
    · obtain ⟨s3, b1, b2, b3⟩ := p2 s hs
      exact ⟨s3, by rw [HF, b1, cS_l], b2, b3⟩
    · obtain ⟨s3, b1, b2, b3⟩ := p3 s hs
      have b1' : G (mk s) = some (.inl (), mk s3) := b1
      exact ⟨s3, by rw [HG, b1', cS_l], b2, b3⟩
end LV
