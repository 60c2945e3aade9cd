/- needs: 75.lines -/
/-! a line of a shot -/
def qS5 (N : Nat) (x4 : Int32) (c26 : mm_C) : mR Unit :=
  cV 12 419 c26 (fX12_is N 419 (1000000 + 4) c26) fun r27 c28 => if r27 = 0 then (bX12_readShot_161 N 419 c28) else (cV 12 419 c28 (fX12_stepOn N 419 c28) fun (_ : Unit) c29 => Option.bind (gR c29 419 12 9) fun x30 => cV 12 419 c29 (fX12_numberNow N 419 (0 : Int32) (9999 : Int32) c29) fun r31 c32 => Option.bind (tI c32 x30 ((8 : Int32) + x4) r31) fun c33 => Option.bind (gI c33 419 12 23) fun x34 => if ¬ x34 = 0 then (bX12_readShot_150 N 419 c33) else (Option.bind (gR c33 419 12 9) fun x35 => Option.bind (aI c33 x35 ((8 : Int32) + x4)) fun x36 => Option.bind (gR c33 419 12 3) fun x37 => Option.bind (aI c33 x37 (8 : Int32)) fun x38 => if x36 < x38 then (bX12_readShot_150 N 419 c33) else (cV 12 419 c33 (fX12_wrong N 419 (3 : Int32) c33) fun (_ : Unit) c39 => bX12_readShot_150 N 419 c39)))
def qS4 (N : Nat) (x4 : Int32) (c18 : mm_C) : mR Unit :=
  Option.bind (gR c18 419 12 8) fun x19 => Option.bind (gR c18 419 12 7) fun x20 => Option.bind (aI c18 x20 ((8 : Int32) + x4)) fun x21 => cV 12 419 c18 (fX12_readNumber N 419 x21 (480 : Int32) c18) fun r22 c23 => Option.bind (tI c23 x19 ((8 : Int32) + x4) r22) fun c24 => Option.bind (gR c24 419 12 9) fun x25 => Option.bind (tI c24 x25 ((8 : Int32) + x4) (-1 : Int32)) fun c26 => qS5 N x4 c26
def qS3 (N : Nat) (x4 : Int32) (c14 : mm_C) : mR Unit :=
  Option.bind (gR c14 419 12 7) fun x15 => cV 12 419 c14 (fX12_readNumber N 419 (0 : Int32) (480 : Int32) c14) fun r16 c17 => Option.bind (tI c17 x15 ((8 : Int32) + x4) r16) fun c18 => qS4 N x4 c18
def qS2 (N : Nat) (x4 : Int32) (c10 : mm_C) : mR Unit :=
  Option.bind (gR c10 419 12 6) fun x11 => cV 12 419 c10 (fX12_readNumber N 419 (1 : Int32) (30 : Int32) c10) fun r12 c13 => Option.bind (tI c13 x11 ((8 : Int32) + x4) r12) fun c14 => qS3 N x4 c14
def qS1 (N : Nat) (x4 : Int32) (c6 : mm_C) : mR Unit :=
  Option.bind (gR c6 419 12 5) fun x7 => cV 12 419 c6 (fX12_readNumber N 419 (0 : Int32) (2 : Int32) c6) fun r8 c9 => Option.bind (tI c9 x7 ((8 : Int32) + x4) r8) fun c10 => qS2 N x4 c10
theorem qS0 (N : Nat) (v1 : Int32) (c : mm_C) : fX12_readShot N 419 v1 c = cV 12 419 c (fX12_another N 419 (0 : Int32) (8 : Int32) c) fun r1 c2 => if ¬ r1 = 0 then (Option.bind (gR c2 419 12 3) fun x3 => Option.bind (aI c2 x3 (8 : Int32)) fun x4 => Option.bind (gR c2 419 12 4) fun x5 => Option.bind (tI c2 x5 ((8 : Int32) + x4) v1) fun c6 => qS1 N x4 c6) else (some (.inl (), c2)) := rfl
def kS5 (N p r4 : Nat) (v2 : Int32) (c20 : mm_C) : mR Unit :=
  Option.bind (gR c20 34 2 2) fun x21 => cV 10 x21 c20 (fX10_isWord N x21 (1000000 + 4) c20) fun r22 c23 => if r22 = 0 then (some (.inl (), c23)) else (Option.bind (gR c23 34 2 2) fun x24 => cV 10 x24 c23 (fX10_advances N x24 c23) fun (_ : Unit) c25 => cV 2 34 c25 (fX2_readsEarlierShot N 34 v2 c25) fun r26 c27 => Option.bind (pI c27 r4 7 5 r26) fun c28 => some (.inl (), c28))
def kS4 (N p r4 : Nat) (v2 : Int32) (c15 : mm_C) : mR Unit :=
  Option.bind (gI c15 r4 7 3) fun x16 => cV 2 34 c15 (fX2_readsNumber N 34 x16 (480 : Int32) c15) fun r17 c18 => Option.bind (pI c18 r4 7 4 r17) fun c19 => Option.bind (pI c19 r4 7 5 (-1 : Int32)) fun c20 => kS5 N p r4 v2 c20
def kS3 (N p r4 : Nat) (v2 : Int32) (c12 : mm_C) : mR Unit :=
  cV 2 34 c12 (fX2_readsNumber N 34 (0 : Int32) (480 : Int32) c12) fun r13 c14 => Option.bind (pI c14 r4 7 3 r13) fun c15 => kS4 N p r4 v2 c15
def kS2 (N p r4 : Nat) (v2 : Int32) (c9 : mm_C) : mR Unit :=
  cV 2 34 c9 (fX2_readsNumber N 34 (1 : Int32) (30 : Int32) c9) fun r10 c11 => Option.bind (pI c11 r4 7 2 r10) fun c12 => kS3 N p r4 v2 c12
def kS1 (N p r4 : Nat) (v2 : Int32) (c6 : mm_C) : mR Unit :=
  cV 2 34 c6 (fX2_readsNumber N 34 (0 : Int32) (2 : Int32) c6) fun r7 c8 => Option.bind (pI c8 r4 7 1 r7) fun c9 => kS2 N p r4 v2 c9
theorem kS0 (N p : Nat) (v1 v2 : Int32) (c : mm_C) : bX2_readsShot_19 N 34 v1 v2 c = Option.bind (gR c 34 2 2) fun x1 => cV 10 x1 c (fX10_advances N x1 c) fun (_ : Unit) c2 => Option.bind (gR c2 34 2 3) fun x3 => cV 3 x3 c2 (fX3_addShot N x3 c2) fun r4 c5 => Option.bind (pI c5 r4 7 0 v1) fun c6 => kS1 N p r4 v2 c6 := rfl
section LSH
variable {N : Nat} {T : Nat → Nat} {L p e n : Nat} {s : sg}
/-- what the reference's later steps change -/
def rH (n x j : Nat) : Prop := rE x j ∨ (424 ≤ x ∧ x ≤ 428 ∧ j = 8 + n) ∨ (x = 422 ∧ j = 8)
theorem tRow {a i : Nat} (h1 : 423 ≤ a) (h2 : a ≤ 428) (hi : i < 16) {x : Int32} : tI (mk s) a (nI i) x = some (mk (sI s a i x)) := by
  have hk : kc a = 20 ∧ kn a = 16 := by
    obtain rfl | rfl | rfl | rfl | rfl | rfl : a = 423 ∨ a = 424 ∨ a = 425 ∨ a = 426 ∨ a = 427 ∨ a = 428 := by omega
    all_goals exact ⟨rfl, rfl⟩
  have h := tI_k (s := s) (a := a) (i := nI i) (x := x) ⟨hk.1, by rw [hk.2]; exact inA_nI hi (by omega)⟩
  rw [nI_clamp (by omega)] at h
  exact h
theorem aRow {a i : Nat} (h1 : 423 ≤ a) (h2 : a ≤ 428) (hi : i < 16) : aI (mk s) a (nI i) = some (s.1 a i) := by
  have hk : kc a = 20 ∧ kn a = 16 := by
    obtain rfl | rfl | rfl | rfl | rfl | rfl : a = 423 ∨ a = 424 ∨ a = 425 ∨ a = 426 ∨ a = 427 ∨ a = 428 := by omega
    all_goals exact ⟨rfl, rfl⟩
  have h := aI_k (s := s) (a := a) (i := nI i) ⟨hk.1, by rw [hk.2]; exact inA_nI hi (by omega)⟩
  rw [nI_clamp (by omega)] at h
  exact h
theorem e8n (n : Nat) : (8 : Int32) + nI n = nI (8 + n) := nI_add 8 n
theorem r_161 (hn : s.1 422 8 = nI n) : bX12_readShot_161 N 419 (mk s) = some (.inl (), mk (sI s 422 8 (nI (n + 1)))) := by
  have e1 : aI (mk s) 422 (8 : Int32) = some (s.1 422 8) := a422 (i := 8) (by omega)
  have e2 : ∀ x, tI (mk s) 422 (8 : Int32) x = some (mk (sI s 422 8 x)) := fun x => t422 (i := 8) (by omega)
  unfold bX12_readShot_161
  rw [gR12 3 422 rfl rfl, ob_s, e1, ob_s, hn, nI_1, e2, ob_s]
theorem rb_150 (hb : ¬ s.1 419 23 = 0) (hn : s.1 422 8 = nI n) : bX12_readShot_150 N 419 (mk s) = some (.inl (), mk (sI s 422 8 (nI (n + 1)))) := by
  unfold bX12_readShot_150
  rw [gI12 23 rfl, ob_s, if_pos hb, r_161 hn]
/-- a fault: the rest is gone through, and nothing of it counts -/
def bG (G : mm_C → mR Unit) (n : Nat) : Prop := ∀ s : sg, ¬ s.1 419 23 = 0 → s.1 422 8 = nI n → ∃ s', G (mk s) = some (.inl (), mk s') ∧ s'.1 419 23 = s.1 419 23 ∧ s'.1 419 24 = s.1 419 24 ∧ Fr (fun x j => (424 ≤ x ∧ x ≤ 428 ∧ j = 8 + n) ∨ (x = 422 ∧ j = 8)) s s'
theorem bG5 (hN1 : 1000 ≤ N) : bG (qS5 N (nI n)) n := by
  intro s hb hn
  refine ⟨sI s 422 8 (nI (n + 1)), ?_, by rw [sI_1, if_neg (by omega)], by rw [sI_1, if_neg (by omega)], Fr_sI (by omega)⟩
  unfold qS5
  rw [cV12, r_isb hN1 hb, cS_l, if_pos rfl, r_161 hn]
theorem bG_st {G : mm_C → mR Unit} (h : bG G n) {a i : Nat} {x : Int32} (h1 : 424 ≤ a) (h2 : a ≤ 428) (hi : i = 8 + n) (hb : ¬ s.1 419 23 = 0) (hn : s.1 422 8 = nI n) : ∃ s', G (mk (sI s a i x)) = some (.inl (), mk s') ∧ s'.1 419 23 = s.1 419 23 ∧ s'.1 419 24 = s.1 419 24 ∧ Fr (fun x j => (424 ≤ x ∧ x ≤ 428 ∧ j = 8 + n) ∨ (x = 422 ∧ j = 8)) s s' := by
  obtain ⟨s', b1, b2, b3, b4⟩ := h (sI s a i x) (by rw [sI_1, if_neg (by omega)]; exact hb) (by rw [sI_1, if_neg (by omega)]; exact hn)
  exact ⟨s', b1, by rw [b2, sI_1, if_neg (by omega)], by rw [b3, sI_1, if_neg (by omega)], Fr_t (Fr_sI (by omega)) b4⟩
theorem bG4 (hN1 : 1000 ≤ N) (h8 : n < 8) : bG (qS4 N (nI n)) n := by
  intro s hb hn
  have hb1 : ¬ (sI s 427 (8 + n) 0).1 419 23 = 0 := by rw [sI_1, if_neg (by omega)]; exact hb
  have hn1 : (sI s 427 (8 + n) 0).1 422 8 = nI n := by rw [sI_1, if_neg (by omega)]; exact hn
  obtain ⟨s', b1, b2, b3, b4⟩ := bG_st (s := sI s 427 (8 + n) 0) (bG5 hN1) (a := 428) (i := 8 + n) (x := -1) (by omega) (by omega) (by omega) hb1 hn1
  refine ⟨s', ?_, by rw [b2, sI_1, if_neg (by omega)], by rw [b3, sI_1, if_neg (by omega)], Fr_t (Fr_sI (by omega)) b4⟩
  unfold qS4
  rw [gR12 8 427 rfl rfl, ob_s, gR12 7 426 rfl rfl, ob_s, e8n, aRow (by omega) (by omega) (by omega), ob_s, cV12, rb_rn hb, cS_l, tRow (by omega) (by omega) (by omega), ob_s, gR12 9 428 rfl rfl, ob_s, tRow (by omega) (by omega) (by omega), ob_s, b1]
theorem bG3 (hN1 : 1000 ≤ N) (h8 : n < 8) : bG (qS3 N (nI n)) n := by
  intro s hb hn
  obtain ⟨s', b1, b2⟩ := bG_st (s := s) (bG4 hN1 h8) (a := 426) (i := 8 + n) (x := 0) (by omega) (by omega) (by omega) hb hn
  refine ⟨s', ?_, b2⟩
  unfold qS3
  rw [gR12 7 426 rfl rfl, ob_s, cV12, rb_rn hb, cS_l, e8n, tRow (by omega) (by omega) (by omega), ob_s, b1]
theorem bG2 (hN1 : 1000 ≤ N) (h8 : n < 8) : bG (qS2 N (nI n)) n := by
  intro s hb hn
  obtain ⟨s', b1, b2⟩ := bG_st (s := s) (bG3 hN1 h8) (a := 425) (i := 8 + n) (x := 0) (by omega) (by omega) (by omega) hb hn
  refine ⟨s', ?_, b2⟩
  unfold qS2
  rw [gR12 6 425 rfl rfl, ob_s, cV12, rb_rn hb, cS_l, e8n, tRow (by omega) (by omega) (by omega), ob_s, b1]
/-! the shots of the class -/
theorem shK (hp : plA p) (hn : n < 8) : kc (p + 8 + n) = 7 ∧ kc (p + 1) = 24 ∧ kn (p + 1) = 8 := by
  rcases hp with rfl | rfl
  · obtain rfl | rfl | rfl | rfl | rfl | rfl | rfl | rfl : n = 0 ∨ n = 1 ∨ n = 2 ∨ n = 3 ∨ n = 4 ∨ n = 5 ∨ n = 6 ∨ n = 7 := by omega
    all_goals exact ⟨rfl, rfl, rfl⟩
  · obtain rfl | rfl | rfl | rfl | rfl | rfl | rfl | rfl : n = 0 ∨ n = 1 ∨ n = 2 ∨ n = 3 ∨ n = 4 ∨ n = 5 ∨ n = 6 ∨ n = 7 := by omega
    all_goals exact ⟨rfl, rfl, rfl⟩
theorem pSh (hp : plA p) (hn : n < 8) (j : Nat) (h : fI 7 j = true) {x : Int32} : pI (mk s) (p + 8 + n) 7 j x = some (mk (sI s (p + 8 + n) j x)) := pI_k ⟨(shK hp hn).1, h, by decide⟩
theorem gSh (hp : plA p) (hn : n < 8) (j : Nat) (h : fI 7 j = true) : gI (mk s) (p + 8 + n) 7 j = some (s.1 (p + 8 + n) j) := gI_k ⟨(shK hp hn).1, h, by decide⟩
theorem c_addShot (hp : plA p) (hn : n < 8) (h : s.1 p 3 = nI n) : fX3_addShot N p (mk s) = some (.inl (p + 8 + n), mk (sI s p 3 (nI (n + 1)))) := by
  have kp := (plK hp).1
  obtain ⟨_, k2, k3⟩ := shK hp hn
  have g6 : gR (mk s) p 3 6 = some (p + 1) := gR_k ⟨kp, rfl, by decide⟩
  have g3 : gI (mk s) p 3 3 = some (s.1 p 3) := gI_k ⟨kp, rfl, by decide⟩
  have e1 : mnI (nI n) (7 : Int32) = nI n := by
    have := mn_nI (a := n) (b := 7) (by omega) (by omega)
    rw [show min n 7 = n by omega] at this
    exact this
  have e2 : mnI (nI (n + 1)) (8 : Int32) = nI (n + 1) := by
    have := mn_nI (a := n + 1) (b := 8) (by omega) (by omega)
    rw [show min (n + 1) 8 = n + 1 by omega] at this
    exact this
  have ha : aR (.object "CloudTakes$Shot") (mk s) (p + 1) (nI n) = some (p + 8 + n) := by
    rw [aR_24 ⟨k2, by rw [k3]; exact inA_nI hn (by omega)⟩, nI_clamp (by omega), show p + 1 + 7 + n = p + 8 + n by omega]
  unfold fX3_addShot bX3_addShot_0
  rw [g6, ob_s, g3, ob_s, h, e1, ha, ob_s, ob_s, nI_1, e2, pI_k ⟨kp, rfl, by decide⟩, ob_s]
end LSH
def cSh (p n x j : Nat) : Prop := cE p x j ∨ x = p + 8 + n
/-- what is known of the fields of a shot from the m-th on -/
def fA (n m : Nat) (a : Nat → Int32) : Prop := (m ≤ 1 → ∃ v, v ≤ 2 ∧ a 1 = nI v) ∧ (m ≤ 2 → ∃ v, 1 ≤ v ∧ v ≤ 30 ∧ a 2 = nI v) ∧ (m ≤ 3 → ∃ v, v ≤ 480 ∧ a 3 = nI v) ∧ (m ≤ 4 → ∃ v, v ≤ 480 ∧ a 4 = nI v) ∧ (m ≤ 5 → a 5 = -1 ∨ ∃ j, j < n ∧ a 5 = nI j)
def So (T : Nat → Nat) (L p n k : Nat) (Q : Nat → Int32) (F G : mm_C → mR Unit) (e m : Nat) (a : Nat → Int32) : (Nat × Nat) ⊕ (Nat × (Nat → Int32)) → Prop
  | .inl (f, e1) => (1 ≤ f ∧ f ≤ 4 ∧ e1 ≤ L) ∧ (∀ s, CPs T L p s e k Q → (∀ j, j < m → s.1 (p + 8 + n) j = a j) → ∃ s', F (mk s) = some (.inr 0, mk s') ∧ s'.1 34 1 = nI f ∧ s'.1 34 0 = nI (tkA T L e1) ∧ Fr (cSh p n) s s') ∧ ∀ s, RPs T L s e k Q → s.1 422 8 = nI n → (∀ j, j < m → s.1 (423 + j) (8 + n) = a j) → ∃ s', G (mk s) = some (.inl (), mk s') ∧ s'.1 419 23 = nI f ∧ s'.1 419 24 = nI (tkA T L e1) ∧ Fr (rH n) s s'
  | .inr (e1, a1) => (e ≤ e1 ∧ e1 ≤ L ∧ (∀ j, j < m → a1 j = a j) ∧ fA n m a1) ∧ (∀ s, CPs T L p s e k Q → (∀ j, j < m → s.1 (p + 8 + n) j = a j) → ∃ s', F (mk s) = some (.inl (), mk s') ∧ CPs T L p s' e1 k Q ∧ (∀ j, j < 6 → s'.1 (p + 8 + n) j = a1 j) ∧ Fr (cSh p n) s s') ∧ ∀ s, RPs T L s e k Q → s.1 422 8 = nI n → (∀ j, j < m → s.1 (423 + j) (8 + n) = a j) → ∃ s', G (mk s) = some (.inl (), mk s') ∧ RPs T L s' e1 k Q ∧ (∀ j, j < 6 → s'.1 (423 + j) (8 + n) = a1 j) ∧ s'.1 422 8 = nI (n + 1) ∧ Fr (rH n) s s'
theorem cE_S (p n x j : Nat) (h : cE p x j) : cSh p n x j := Or.inl h
theorem rE_H (n x j : Nat) (h : rE x j) : rH n x j := Or.inl h
section LST
variable {N : Nat} {T : Nat → Nat} {L p e n k : Nat} {Q : Nat → Int32}
theorem CPs_sh {s : sg} (hp : plA p) (hn : n < 8) (h : CPs T L p s e k Q) (j : Nat) (x : Int32) : CPs T L p (sI s (p + 8 + n) j x) e k Q := by
  have hp' : p = 2 ∨ p = 18 := hp
  exact CPs_o h (Fr_sI (D := fun y i => y = p + 8 + n) rfl) (by intro y i q; omega)
theorem RPs_sh {s : sg} (h : RPs T L s e k Q) {a i : Nat} (ha : 423 ≤ a) (ha2 : a ≤ 428) (x : Int32) : RPs T L (sI s a i x) e k Q :=
  RPs_o h (Fr_sI (D := fun y i => y = a) rfl) (by intro y i q; omega)
theorem So_step (hN1 : 1000 ≤ N) (hL : L ≤ 700) (hT : ∀ j, j < L → T j < 256) (hp : plA p) (hn : n < 8) (he : e ≤ L) {F G F' G' : mm_C → mR Unit} {m lo hi : Nat} (hm : 1 ≤ m) (hm4 : m ≤ 4) (hfi : fI 7 m = true) (hlo : lo < 10000) (hhi : hi < 10000) {a : Nat → Int32}
    (hF : ∀ s, (∀ j, j < m → s.1 (p + 8 + n) j = a j) → F (mk s) = cS (fX2_readsNumber N 34 (nI lo) (nI hi) (mk s)) fun r c => Option.bind (pI c (p + 8 + n) 7 m r) fun c2 => F' c2)
    (hG : ∀ s, (∀ j, j < m → s.1 (423 + j) (8 + n) = a j) → G (mk s) = cS (fX12_readNumber N 419 (nI lo) (nI hi) (mk s)) fun r c => Option.bind (tI c (423 + m) (nI (8 + n)) r) fun c2 => G' c2)
    (hb : bG G' n) (hfA : nG T L e lo hi = 0 → ∀ a1, a1 m = nI (nV T L e) → fA n (m + 1) a1 → fA n m a1)
    (next : nG T L e lo hi = 0 → ∃ o, So T L p n k Q F' G' (tkE T L e) (m + 1) (up1 a m (nI (nV T L e))) o) : ∃ o, So T L p n k Q F G e m a o := by
  have hp' : p = 2 ∨ p = 18 := hp
  have hA := tkA_le (T := T) he
  have hE := tkE_le (T := T) he
  by_cases c : nG T L e lo hi = 0
  · obtain ⟨o, ho⟩ := next c
    have cS1 : ∀ s, CPs T L p s e k Q → (∀ j, j < m → s.1 (p + 8 + n) j = a j) → ∃ s2, F (mk s) = F' (mk s2) ∧ CPs T L p s2 (tkE T L e) k Q ∧ (∀ j, j < m + 1 → s2.1 (p + 8 + n) j = up1 a m (nI (nV T L e)) j) ∧ Fr (cSh p n) s s2 := by
      intro s hs ha
      obtain ⟨s1, b1, b2, b3⟩ := c_rn0 (N := N) (lo := lo) (hi := hi) hN1 hL hT hp he hs rfl rfl hhi c
      refine ⟨sI s1 (p + 8 + n) m (nI (nV T L e)), ?_, CPs_sh hp hn b2 _ _, fun j hj => ?_, Fr_t (Fr_m b3 (cE_S p n)) (Fr_sI (Or.inr rfl))⟩
      · rw [hF s ha, b1, cS_l, pSh hp hn m hfi, ob_s]
      · unfold up1
        rw [sI_1]
        by_cases c2 : j = m
        · rw [if_pos ⟨rfl, c2⟩, if_pos c2]
        · rw [if_neg (fun z => c2 z.2), if_neg c2, b3.1 _ _ (by unfold cE; omega)]
          exact ha j (by omega)
    have rS1 : ∀ s, RPs T L s e k Q → s.1 422 8 = nI n → (∀ j, j < m → s.1 (423 + j) (8 + n) = a j) → ∃ s2, G (mk s) = G' (mk s2) ∧ RPs T L s2 (tkE T L e) k Q ∧ s2.1 422 8 = nI n ∧ (∀ j, j < m + 1 → s2.1 (423 + j) (8 + n) = up1 a m (nI (nV T L e)) j) ∧ Fr (rH n) s s2 := by
      intro s hs h8 ha
      obtain ⟨s1, b1, b2, b3⟩ := r_rn0 (N := N) (lo := lo) (hi := hi) hN1 hL hT he hs rfl rfl hhi c
      refine ⟨sI s1 (423 + m) (8 + n) (nI (nV T L e)), ?_, RPs_sh b2 (by omega) (by omega) _, ?_, fun j hj => ?_, Fr_t (Fr_m b3 (rE_H n)) (Fr_sI (Or.inr (by omega)))⟩
      · rw [hG s ha, b1, cS_l, tRow (by omega) (by omega) (by omega), ob_s]
      · rw [sI_1, if_neg (by omega)]
        exact (b3.1 _ _ (by unfold rE; omega)).trans h8
      · unfold up1
        rw [sI_1]
        by_cases c2 : j = m
        · rw [if_pos ⟨by omega, rfl⟩, if_pos c2]
        · rw [if_neg (fun z => c2 (by omega)), if_neg c2, b3.1 _ _ (by unfold rE; omega)]
          exact ha j (by omega)
    match o, ho with
    | .inl (f, e1), ho =>
      obtain ⟨h0, h1, h2⟩ := ho
      refine ⟨.inl (f, e1), h0, fun s hs ha => ?_, fun s hs h8 ha => ?_⟩
      · obtain ⟨s2, a1, a2, a3, a4⟩ := cS1 s hs ha
        obtain ⟨s', b1, b2, b3, b4⟩ := h1 s2 a2 a3
        exact ⟨s', a1.trans b1, b2, b3, Fr_t a4 b4⟩
      · obtain ⟨s2, a1, a2, a5, a3, a4⟩ := rS1 s hs h8 ha
        obtain ⟨s', b1, b2, b3, b4⟩ := h2 s2 a2 a5 a3
        exact ⟨s', a1.trans b1, b2, b3, Fr_t a4 b4⟩
    | .inr (e1, a1), ho =>
      obtain ⟨⟨h01, h02, h03, h04⟩, h1, h2⟩ := ho
      refine ⟨.inr (e1, a1), ⟨by omega, h02, fun j hj => (h03 j (by omega)).trans (up1_ne a _ (by omega)), hfA c a1 ((h03 m (by omega)).trans (up1_at a m _)) h04⟩, fun s hs ha => ?_, fun s hs h8 ha => ?_⟩
      · obtain ⟨s2, a1, a2, a3, a4⟩ := cS1 s hs ha
        obtain ⟨s', b1, b2, b3, b4⟩ := h1 s2 a2 a3
        exact ⟨s', a1.trans b1, b2, b3, Fr_t a4 b4⟩
      · obtain ⟨s2, a1, a2, a5, a3, a4⟩ := rS1 s hs h8 ha
        obtain ⟨s', b1, b2, b3, b5, b4⟩ := h2 s2 a2 a5 a3
        exact ⟨s', a1.trans b1, b2, b3, b5, Fr_t a4 b4⟩
  · have hg2 := nG_2 T L e lo hi
    refine ⟨.inl (nG T L e lo hi, e), ⟨by omega, by omega, he⟩, fun s hs ha => ?_, fun s hs h8 ha => ?_⟩
    · obtain ⟨s1, b1, b2, b3, b4⟩ := c_rn1 (N := N) (lo := lo) (hi := hi) hN1 hL hT he hs rfl rfl hlo hhi c
      exact ⟨s1, by rw [hF s ha, b1, cS_r], b2, b3, Fr_m b4 (cE_S p n)⟩
    · obtain ⟨s1, b1, b2, b3, b4⟩ := r_rn1 (N := N) (lo := lo) (hi := hi) hL hT he hs rfl rfl hlo hhi c
      have hb1 : ¬ s1.1 419 23 = 0 := by rw [b2]; exact nI_b (by omega) (by omega)
      have hn1 : s1.1 422 8 = nI n := (b4.1 _ _ (by unfold rE; omega)).trans h8
      obtain ⟨s', d1, d2, d3, d4⟩ := bG_st (s := s1) hb (a := 423 + m) (i := 8 + n) (x := 0) (by omega) (by omega) (by omega) hb1 hn1
      refine ⟨s', ?_, d2.trans b2, d3.trans b3, Fr_t (Fr_m b4 (rE_H n)) (Fr_m d4 (fun x j q => Or.inr q))⟩
      rw [hG s ha, b1, cS_l, tRow (by omega) (by omega) (by omega), ob_s, d1]
/-- whether it comes after another one -/
theorem So_5 (hN1 : 1000 ≤ N) (hL : L ≤ 700) (hT : ∀ j, j < L → T j < 256) (hp : plA p) (hn : n < 8) (he : e ≤ L) (a : Nat → Int32) : ∃ o, So T L p n k Q (fun c19 => Option.bind (pI c19 (p + 8 + n) 7 5 (-1 : Int32)) fun c20 => kS5 N p (p + 8 + n) (nI n) c20) (fun c24 => Option.bind (tI c24 428 (nI (8 + n)) (-1 : Int32)) fun c26 => qS5 N (nI n) c26) e 5 a o := by
  have hp' : p = 2 ∨ p = 18 := hp
  have hA := tkA_le (T := T) he
  have hE := tkE_le (T := T) he
  have cW : ∀ s, CPs T L p s e k Q → (∀ j, j < 5 → s.1 (p + 8 + n) j = a j) → CPs T L p (sI s (p + 8 + n) 5 (-1)) e k Q ∧ (∀ j, j < 5 → (sI s (p + 8 + n) 5 (-1)).1 (p + 8 + n) j = a j) := fun s hs ha => ⟨CPs_sh hp hn hs _ _, fun j hj => by rw [sI_1, if_neg (by omega)]; exact ha j hj⟩
  have rW : ∀ s, RPs T L s e k Q → s.1 422 8 = nI n → (∀ j, j < 5 → s.1 (423 + j) (8 + n) = a j) → RPs T L (sI s 428 (8 + n) (-1)) e k Q ∧ (sI s 428 (8 + n) (-1)).1 422 8 = nI n ∧ (∀ j, j < 5 → (sI s 428 (8 + n) (-1)).1 (423 + j) (8 + n) = a j) := fun s hs h8 ha => ⟨RPs_sh hs (by omega) (by omega) _, by rw [sI_1, if_neg (by omega)]; exact h8, fun j hj => by rw [sI_1, if_neg (by omega)]; exact ha j hj⟩
  cases c0 : isW T L e (sw 4 5 0) with
  | false =>
    refine ⟨.inr (e, up1 a 5 (-1)), ⟨Nat.le_refl _, he, fun j hj => up1_ne a _ (by omega), fun z => by omega, fun z => by omega, fun z => by omega, fun z => by omega, fun _ => Or.inl (up1_at a 5 _)⟩, fun s hs ha => ?_, fun s hs h8 ha => ?_⟩
    · obtain ⟨g1, g2⟩ := cW s hs ha
      refine ⟨sI s (p + 8 + n) 5 (-1), ?_, g1, fun j hj => ?_, Fr_sI (Or.inr rfl)⟩
      · show Option.bind (pI (mk s) (p + 8 + n) 7 5 (-1 : Int32)) _ = _
        unfold kS5
        rw [pSh hp hn 5 rfl, ob_s, gR34, ob_s, cV10, c_wrd hN1 okW_4 hL hT he g1, cS_l, c0, if_pos (by decide)]
      · by_cases c2 : j = 5
        · rw [c2, sI_at, up1_at]
        · rw [up1_ne a _ c2, g2 j (by omega)]
    · obtain ⟨g1, g3, g2⟩ := rW s hs h8 ha
      refine ⟨sI (sI s 428 (8 + n) (-1)) 422 8 (nI (n + 1)), ?_, RPs_o g1 (Fr_sI (D := fun y i => y = 422 ∧ i = 8) ⟨rfl, rfl⟩) (by intro y i q; omega), fun j hj => ?_, sI_at _ _ _ _, Fr_t (Fr_sI (by unfold rH; omega)) (Fr_sI (by unfold rH; omega))⟩
      · show Option.bind (tI (mk s) 428 (nI (8 + n)) (-1 : Int32)) _ = _
        unfold qS5
        rw [tRow (by omega) (by omega) (by omega), ob_s, cV12, r_wrd hN1 okW_4 hL hT he g1, cS_l, c0, if_pos (by decide), r_161 g3]
      · rw [sI_1, if_neg (by omega)]
        by_cases c2 : j = 5
        · rw [c2, sI_1, if_pos ⟨rfl, rfl⟩, up1_at]
        · rw [up1_ne a _ c2, g2 j (by omega)]
  | true =>
    have hkk : ¬ tkK T L e = 0 := by have := (of_decide_eq_true c0).1; omega
    have hE2 := tkE_gt he hkk
    have hA2 := tkA_le (T := T) hE.2
    have hE3 := tkE_le (T := T) hE.2
    have cV5 : ∀ s, CPs T L p s e k Q → (∀ j, j < 5 → s.1 (p + 8 + n) j = a j) → ∃ s2, CPs T L p s2 (tkE T L e) k Q ∧ (∀ j, j < 5 → s2.1 (p + 8 + n) j = a j) ∧ Fr (cSh p n) s s2 ∧ (Option.bind (pI (mk s) (p + 8 + n) 7 5 (-1 : Int32)) fun c20 => kS5 N p (p + 8 + n) (nI n) c20) = cS (fX2_readsEarlierShot N 34 (nI n) (mk s2)) fun r26 c27 => Option.bind (pI c27 (p + 8 + n) 7 5 r26) fun c28 => some (.inl (), c28) := fun s hs ha => by
      obtain ⟨g1, g2⟩ := cW s hs ha
      obtain ⟨s2, b1, b2, b3⟩ := CPs_adv (N := N) hN1 hL hT hp he g1
      refine ⟨s2, b2, fun j hj => (b3.1 _ _ (by unfold cE; omega)).trans (g2 j hj), Fr_t (Fr_sI (Or.inr rfl)) (Fr_m b3 (cE_S p n)), ?_⟩
      unfold kS5
      rw [pSh hp hn 5 rfl, ob_s, gR34, ob_s, cV10, c_wrd hN1 okW_4 hL hT he g1, cS_l, c0, if_neg (by decide), gR34, ob_s, cV10, b1, cS_l, cV34]
    have rV5 : ∀ s, RPs T L s e k Q → s.1 422 8 = nI n → (∀ j, j < 5 → s.1 (423 + j) (8 + n) = a j) → ∃ s2, RPs T L s2 (tkE T L e) k Q ∧ s2.1 422 8 = nI n ∧ (∀ j, j < 5 → s2.1 (423 + j) (8 + n) = a j) ∧ Fr (rH n) s s2 ∧ (Option.bind (tI (mk s) 428 (nI (8 + n)) (-1 : Int32)) fun c26 => qS5 N (nI n) c26) = cS (fX12_numberNow N 419 (0 : Int32) (9999 : Int32) (mk s2)) fun r31 c32 => Option.bind (tI c32 428 ((8 : Int32) + nI n) r31) fun c33 => Option.bind (gI c33 419 12 23) fun x34 => if ¬ x34 = 0 then (bX12_readShot_150 N 419 c33) else (Option.bind (gR c33 419 12 9) fun x35 => Option.bind (aI c33 x35 ((8 : Int32) + nI n)) fun x36 => Option.bind (gR c33 419 12 3) fun x37 => Option.bind (aI c33 x37 (8 : Int32)) fun x38 => if x36 < x38 then (bX12_readShot_150 N 419 c33) else (cV 12 419 c33 (fX12_wrong N 419 (3 : Int32) c33) fun (_ : Unit) c39 => bX12_readShot_150 N 419 c39)) := fun s hs h8 ha => by
      obtain ⟨g1, g3, g2⟩ := rW s hs h8 ha
      obtain ⟨s2, b1, b2, b3⟩ := RPs_step (N := N) hN1 hL hT he g1
      refine ⟨s2, b2, (b3.1 _ _ (by unfold rE; omega)).trans g3, fun j hj => (b3.1 _ _ (by unfold rE; omega)).trans (g2 j hj), Fr_t (Fr_sI (by unfold rH; omega)) (Fr_m b3 (rE_H n)), ?_⟩
      unfold qS5
      rw [tRow (by omega) (by omega) (by omega), ob_s, cV12, r_wrd hN1 okW_4 hL hT he g1, cS_l, c0, if_neg (by decide), cV12, b1, cS_l, gR12 9 428 rfl rfl, ob_s, cV12]
    have h9 := nG_9 (e := tkE T L e) hT hE.2
    have a8 : ∀ s : sg, aI (mk s) 422 (8 : Int32) = some (s.1 422 8) := fun s => a422 (i := 8) (by omega)
    by_cases c : nF T L (tkE T L e) = 0
    · obtain ⟨f1, f2⟩ := nF_0 c
      have hv := nV_lt hT hE.2 f1 f2
      have hkk2 : ¬ tkK T L (tkE T L e) = 0 := by omega
      by_cases c2 : nV T L (tkE T L e) < n
      · refine ⟨.inr (tkE T L (tkE T L e), up1 a 5 (nI (nV T L (tkE T L e)))), ⟨by omega, hE3.2, fun j hj => up1_ne a _ (by omega), fun z => by omega, fun z => by omega, fun z => by omega, fun z => by omega, fun _ => Or.inr ⟨_, c2, up1_at a 5 _⟩⟩, fun s hs ha => ?_, fun s hs h8 ha => ?_⟩
        · obtain ⟨s2, g1, g2, g3, g4⟩ := cV5 s hs ha
          obtain ⟨s3, b1, b2, b3⟩ := CPs_adv (N := N) hN1 hL hT hp hE.2 g1
          refine ⟨sI s3 (p + 8 + n) 5 (nI (nV T L (tkE T L e))), ?_, CPs_sh hp hn b2 _ _, fun j hj => ?_, Fr_t g3 (Fr_t (Fr_m b3 (cE_S p n)) (Fr_sI (Or.inr rfl)))⟩
          · refine g4.trans ?_
            unfold fX2_readsEarlierShot bX2_readsEarlierShot_0 bX2_readsEarlierShot_15
            rw [cV34, c_look0 hN1 hL hT hE.2 g1 c, cS_l, if_pos (nI_lt c2 (by omega)), gR34, ob_s, cV10, b1, cS_l, cS_l, pSh hp hn 5 rfl, ob_s]
          · by_cases c3 : j = 5
            · rw [c3, sI_at, up1_at]
            · rw [up1_ne a _ c3, sI_1, if_neg (fun z => c3 z.2), b3.1 _ _ (by unfold cE; omega), g2 j (by omega)]
        · obtain ⟨s2, g1, g5, g2, g3, g4⟩ := rV5 s hs h8 ha
          have hn0 := r_nn0 (N := N) (lo := 0) (hi := 9999) (x := 0) (y := 9999) hT hL hE.2 g1 rfl rfl (by omega) (h9.trans c)
          have g1' := RPs_sh g1 (a := 428) (i := 8 + n) (by omega) (by omega) (nI (nV T L (tkE T L e)))
          have g5' : (sI s2 428 (8 + n) (nI (nV T L (tkE T L e)))).1 422 8 = nI n := by rw [sI_1, if_neg (by omega)]; exact g5
          obtain ⟨s3, b1, b2, b3⟩ := RPs_step (N := N) hN1 hL hT hE.2 g1'
          have k8 : s3.1 422 8 = nI n := by rw [b3.1 _ _ (by unfold rE; omega), sI_1, if_neg (by omega)]; exact g5
          refine ⟨sI s3 422 8 (nI (n + 1)), ?_, RPs_o b2 (Fr_sI (D := fun y i => y = 422 ∧ i = 8) ⟨rfl, rfl⟩) (by intro y i q; omega), fun j hj => ?_, sI_at _ _ _ _, Fr_t g3 (Fr_t (Fr_sI (by unfold rH; omega)) (Fr_t (Fr_m b3 (rE_H n)) (Fr_sI (by unfold rH; omega))))⟩
          · refine g4.trans ?_
            unfold bX12_readShot_150
            rw [hn0, cS_l, e8n, tRow (by omega) (by omega) (by omega), ob_s, gI12 23 rfl, ob_s, g1'.2.2.2.1, if_neg (fun z => z rfl), gR12 9 428 rfl rfl, ob_s, aRow (by omega) (by omega) (by omega), ob_s, sI_at, gR12 3 422 rfl rfl, ob_s, a8, ob_s, g5', if_pos (nI_lt c2 (by omega)), ob_s, if_neg (fun z => z rfl), cV12, b1, cS_l, r_161 k8]
          · rw [sI_1, if_neg (by omega), b3.1 _ _ (by unfold rE; omega)]
            by_cases c3 : j = 5
            · rw [c3, sI_1, if_pos ⟨rfl, rfl⟩, up1_at]
            · rw [up1_ne a _ c3, sI_1, if_neg (by omega), g2 j (by omega)]
      · refine ⟨.inl (3, tkE T L e), ⟨by omega, by omega, hE.2⟩, fun s hs ha => ?_, fun s hs h8 ha => ?_⟩
        · obtain ⟨s2, g1, g2, g3, g4⟩ := cV5 s hs ha
          obtain ⟨s3, b1, b2, b3, b4⟩ := c_ref (N := N) g1 (f := 3) (x := 3) rfl
          refine ⟨s3, ?_, b2, b3, Fr_t g3 (Fr_m b4 (cE_S p n))⟩
          refine g4.trans ?_
          unfold fX2_readsEarlierShot bX2_readsEarlierShot_0
          rw [cV34, c_look0 hN1 hL hT hE.2 g1 c, cS_l, if_neg (nI_nlt (by omega) (by omega)), cV34, b1, cS_r, cS_r]
        · obtain ⟨s2, g1, g5, g2, g3, g4⟩ := rV5 s hs h8 ha
          have hn0 := r_nn0 (N := N) (lo := 0) (hi := 9999) (x := 0) (y := 9999) hT hL hE.2 g1 rfl rfl (by omega) (h9.trans c)
          have g1' := RPs_sh g1 (a := 428) (i := 8 + n) (by omega) (by omega) (nI (nV T L (tkE T L e)))
          have g5' : (sI s2 428 (8 + n) (nI (nV T L (tkE T L e)))).1 422 8 = nI n := by rw [sI_1, if_neg (by omega)]; exact g5
          obtain ⟨s3, b1, b2, b3, b4⟩ := r_wr (N := N) g1' (f := 3) (x := 3) rfl
          have hb : ¬ s3.1 419 23 = 0 := by rw [b2]; exact nI_b (by omega) (by omega)
          have k8 : s3.1 422 8 = nI n := by rw [b4.1 _ _ (by unfold rE; omega), sI_1, if_neg (by omega)]; exact g5
          refine ⟨sI s3 422 8 (nI (n + 1)), ?_, by rw [sI_1, if_neg (by omega)]; exact b2, by rw [sI_1, if_neg (by omega)]; exact b3, Fr_t g3 (Fr_t (Fr_sI (by unfold rH; omega)) (Fr_t (Fr_m b4 (rE_H n)) (Fr_sI (by unfold rH; omega))))⟩
          refine g4.trans ?_
          rw [hn0, cS_l, e8n, tRow (by omega) (by omega) (by omega), ob_s, gI12 23 rfl, ob_s, g1'.2.2.2.1, if_neg (fun z => z rfl), gR12 9 428 rfl rfl, ob_s, aRow (by omega) (by omega) (by omega), ob_s, sI_at, gR12 3 422 rfl rfl, ob_s, a8, ob_s, g5', if_neg (nI_nlt (by omega) (by omega)), cV12, b1, cS_l, rb_150 hb k8]
    · have hf2 := nF_2 T L (tkE T L e)
      refine ⟨.inl (nF T L (tkE T L e), tkE T L e), ⟨by omega, by omega, hE.2⟩, fun s hs ha => ?_, fun s hs h8 ha => ?_⟩
      · obtain ⟨s2, g1, g2, g3, g4⟩ := cV5 s hs ha
        obtain ⟨s3, b1, b2, b3, b4⟩ := c_look1 (N := N) hE.2 g1 hL c
        refine ⟨s3, ?_, b2, b3, Fr_t g3 (Fr_m b4 (cE_S p n))⟩
        refine g4.trans ?_
        unfold fX2_readsEarlierShot bX2_readsEarlierShot_0
        rw [cV34, b1, cS_r, cS_r]
      · obtain ⟨s2, g1, g5, g2, g3, g4⟩ := rV5 s hs h8 ha
        obtain ⟨s3, b1, b2, b3, b4⟩ := r_nn1 (N := N) (lo := 0) (hi := 9999) (x := 0) (y := 9999) hT hL hE.2 g1 rfl rfl (by omega) (by omega) (fun z => c (h9.symm.trans z))
        rw [h9] at b2
        have hb : ¬ (sI s3 428 (8 + n) 0).1 419 23 = 0 := by rw [sI_1, if_neg (by omega), b2]; exact nI_b (by omega) (by omega)
        have k8 : (sI s3 428 (8 + n) 0).1 422 8 = nI n := by rw [sI_1, if_neg (by omega), b4.1 _ _ (by unfold rE; omega)]; exact g5
        refine ⟨sI (sI s3 428 (8 + n) 0) 422 8 (nI (n + 1)), ?_, by rw [sI_1, if_neg (by omega), sI_1, if_neg (by omega)]; exact b2, by rw [sI_1, if_neg (by omega), sI_1, if_neg (by omega)]; exact b3, Fr_t g3 (Fr_t (Fr_m b4 (rE_H n)) (Fr_t (Fr_sI (by unfold rH; omega)) (Fr_sI (by unfold rH; omega))))⟩
        refine g4.trans ?_
        rw [b1, cS_l, e8n, tRow (by omega) (by omega) (by omega), ob_s, gI12 23 rfl, ob_s, if_pos hb, rb_150 hb k8]
end LST
