/- needs: 71.levels -/
/-! words of a list, and a part of an expression -/
def sgs (o : Nat) : Nat → Nat → Nat → List (List Nat)
  | 0, _, _ => []
  | f + 1, st, i => if sCr o i = 32 then sw o (i - st) st :: sgs o f (i + 1) (i + 1) else sgs o f st (i + 1)
theorem sgs_s (o f st i : Nat) : sgs o (f + 1) st i = if sCr o i = 32 then sw o (i - st) st :: sgs o f (i + 1) (i + 1) else sgs o f st (i + 1) := rfl
def lk (w : List Nat) : List (List Nat) → Nat → Int32
  | [], _ => -1
  | x :: xs, ix => if w = x then nI ix else lk w xs (ix + 1)
theorem lk_s (w x : List Nat) (xs : List (List Nat)) (ix : Nat) : lk w (x :: xs) ix = if w = x then nI ix else lk w xs (ix + 1) := rfl
theorem ixf_lk (o : Nat) (w : List Nat) : ∀ f ix st i, ixf o w f ix st i = lk w (sgs o f st i) ix
  | 0, _, _, _ => rfl
  | f + 1, ix, st, i => by
    rw [ixf_s, sgs_s]
    by_cases c : sCr o i = 32
    · rw [if_pos c, if_pos c, lk_s, ixf_lk o w f]
    · rw [if_neg c, if_neg c, ixf_lk o w f]
def wls (o : Nat) : Nat → Nat → List (List Nat)
  | 0, _ => []
  | f + 1, i => sw (o + i) (mm_sl.getD (o + i) 0) 0 :: wls o f (i + 1)
theorem wls_s (o f i : Nat) : wls o (f + 1) i = sw (o + i) (mm_sl.getD (o + i) 0) 0 :: wls o f (i + 1) := rfl
theorem wof_lk (o : Nat) (w : List Nat) : ∀ f i, wof o 1 w f i = lk w (wls o f i) i
  | 0, _ => rfl
  | f + 1, i => by
    rw [wof_s, wls_s, lk_s, wof_lk o w f]
    by_cases c : w = sw (o + i) (mm_sl.getD (o + i) 0) 0
    · rw [if_pos ⟨rfl, c⟩, if_pos c]
    · rw [if_neg (fun z => c z.2), if_neg c]
theorem lk_c (w : List Nat) : ∀ xs ix, lk w xs ix = -1 ∨ ∃ v, v < xs.length ∧ lk w xs ix = nI (ix + v)
  | [], _ => Or.inl rfl
  | x :: xs, ix => by
    rw [lk_s]
    by_cases c : w = x
    · rw [if_pos c]
      exact Or.inr ⟨0, by rw [List.length_cons]; omega, rfl⟩
    · rw [if_neg c]
      rcases lk_c w xs (ix + 1) with h | ⟨v, h1, h2⟩
      · exact Or.inl h
      · exact Or.inr ⟨v + 1, by rw [List.length_cons]; omega, by rw [h2, show ix + 1 + v = ix + (v + 1) by omega]⟩
def vWs : List (List Nat) := [[108, 101, 110, 103, 116, 104], [107, 105, 110, 100], [108, 105, 103, 104, 116], [108, 101, 102, 116], [117, 110, 116, 105, 108], [104, 111, 117, 114], [119, 97, 105, 116, 101, 100], [116, 114, 105, 101, 115]]
theorem sgs_6 : sgs 6 47 0 0 = vWs := by decide +kernel
theorem wls_23 : wls 23 8 0 = vWs := by decide +kernel
theorem vv8 : ∀ v, v < 8 → ¬ nI v = -1 ∧ (-1 : Int32) - nI v = trc (-1 - nI v) ∧ (-20 : Int32) < -1 - nI v ∧ (-9 : Int32) < -1 - nI v := by decide +kernel
theorem nI_lo {v : Nat} (hv : v < 10000) : (-20 : Int32) < nI v ∧ (-9 : Int32) < nI v ∧ nI v = trc (nI v) := by
  have h := i32_le.mp (nI_le (a := 0) (b := v) (Nat.zero_le _) (by omega))
  have e0 : (nI 0).toInt = 0 := by decide
  have e1 : (-20 : Int32).toInt = -20 := by decide
  have e2 : (-9 : Int32).toInt = -9 := by decide
  have h1 : (-20 : Int32) < nI v := by rw [i32_lt]; omega
  refine ⟨h1, by rw [i32_lt]; omega, ?_⟩
  unfold trc
  rw [if_pos h1]
section LP
variable {N : Nat} {T : Nat → Nat} {L p a d e : Nat} {eC eR : Nat → Int32 → mm_C → mR Unit}
theorem nG_9 (hT : ∀ j, j < L → T j < 256) (he : e ≤ L) : nG T L e 0 9999 = nF T L e := by
  unfold nG
  by_cases c : nF T L e = 0
  · obtain ⟨f1, f2⟩ := nF_0 c
    have := nV_lt hT he f1 f2
    rw [if_pos c, if_neg (by omega), c]
  · rw [if_neg c]
theorem rb_part {x : Int32} {s : sg} (hb : ¬ s.1 419 23 = 0) : fX12_readPart N eR 419 x (mk s) = some (.inl (), mk s) := by
  unfold fX12_readPart bX12_readPart_0
  rw [gI12 23 rfl, ob_s, if_neg hb]
theorem lvPart_w (hN1 : 1000 ≤ N) (hL : L ≤ 700) (hT : ∀ j, j < L → T j < 256) (hp : plA p) (e k : Nat) (Q : Nat → Int32) (he : e ≤ L) (hk : k ≤ e) (c1 : tkK T L e = 1) : ∃ o, okO L e k Q d o ∧ (may T L e = false → o = .inl (1, e)) ∧ cO T L p (fX2_readsOperand N eC 34 (nI a)) e k Q o ∧ rK T L (fX12_readPart N eR 419 (nI a)) kU e k Q o := by
  have hA := tkA_le (T := T) he
  have hE := tkE_le (T := T) he
  have hkk : ¬ tkK T L e = 0 := by omega
  have hA2 := tkK_A hkk
  have hE2 := tkE_gt he hkk
  have hmay : may T L e = true := decide_eq_true (Or.inr (Or.inl c1))
  have cI : ∀ s, CPs T L p s e k Q → fX10_indexIn N 35 (1000000 + 6) (mk s) = some (.inl (lk (tW T L e) vWs 0), mk s) := fun s h => by
    rw [c_indexIn hN1 okW_6 hL hT h.2.1 h.2.2.1 tkK_4 hE.1 hE.2, if_pos c1, ixf_lk, sgs_6]
    rfl
  have rI : ∀ s, RPs T L s e k Q → fX12_wordOf N 419 421 (mk s) = some (.inl (lk (tW T L e) vWs 0), mk s) := fun s h => by
    rw [r_values hN1 hL hT h.1 h.2.1 tkK_4 hE.1 hE.2 h.2.2.2.1, c1, wof_lk, wls_23]
    rfl
  have hn1 : nI (tkK T L e) = (1 : Int32) := by rw [c1]; rfl
  have hn2 : ¬ nI (tkK T L e) = (2 : Int32) := by rw [c1]; decide
  rcases lk_c (tW T L e) vWs 0 with hv | ⟨v, hv8, hv⟩
  · refine ⟨.inl (3, e), ⟨by omega, by omega, he⟩, fun z => (by rw [hmay] at z; cases z), fun s hs => ?_, fun s hs => ?_⟩
    · obtain ⟨s', b1, b2⟩ := c_ref (N := N) hs (f := 3) (x := 3) rfl
      refine ⟨s', ?_, b2⟩
      unfold fX2_readsOperand bX2_readsOperand_0
      rw [gR34, ob_s, gI10 0 rfl, ob_s, hs.2.2.1.1, if_neg (fun z => z hn1), ob_s, cV10, cI s hs, cS_l, hv, if_neg (fun z => z rfl), cV34, b1, cS_r]
    · obtain ⟨s', b1, b2, b3⟩ := r_wr (N := N) hs (f := 3) (x := 3) rfl
      have hb : ¬ s'.1 419 23 = 0 := by rw [b2]; exact nI_b (by omega) (by omega)
      refine ⟨s', ?_, b2, b3⟩
      unfold fX12_readPart bX12_readPart_0 bX12_readPart_56
      rw [gI12 23 rfl, ob_s, hs.2.2.2.1, if_pos rfl, gI12 19 rfl, ob_s, hs.2.1.1, if_pos hn2, ob_s, if_neg (fun z => z hn1), gR12 1 421 rfl rfl, ob_s, cV12, rI s hs, cS_l, hv, if_neg (fun z => z rfl), cV12, b1, cS_l, cV12, rb_lay hb, cS_l, gI12 23 rfl, ob_s, if_pos hb]
      rfl
  · have hv8' : v < 8 := hv8
    rw [Nat.zero_add] at hv
    obtain ⟨v1, v2, v3, v4⟩ := vv8 v hv8'
    refine ⟨.inr (tkE T L e, k + 1, up1 Q k (-1 - nI v)), ⟨by omega, hE.2, by omega, by omega, fun j hj => up1_ne Q _ (by omega), WL_mono (WL_num v3 v4) (Nat.zero_le _)⟩, fun z => (by rw [hmay] at z; cases z), fun s hs => ?_, fun s hs => ?_⟩
    · obtain ⟨s3, b1, b2, b3⟩ := c_emit (N := N) hp (by omega) hs v2
      obtain ⟨s4, d1, d2, d3⟩ := CPs_adv (N := N) hN1 hL hT hp he b2
      refine ⟨s4, ?_, d2, Fr_t b3 d3⟩
      unfold fX2_readsOperand bX2_readsOperand_0
      rw [gR34, ob_s, gI10 0 rfl, ob_s, hs.2.2.1.1, if_neg (fun z => z hn1), ob_s, cV10, cI s hs, cS_l, hv, if_pos v1]
      unfold bX2_readsOperand_31 bX2_readsOperand_107
      rw [gR34p, ob_s, hs.1, gR38 hp, ob_s, cV44 hp, b1, cS_l, gR34, ob_s, cV10, d1, cS_l]
    · obtain ⟨s3, b1, b2, b3⟩ := r_lay (N := N) (by omega) hs (-1 - nI v)
      obtain ⟨s4, d1, d2, d3⟩ := RPs_step (N := N) hN1 hL hT he b2
      refine ⟨s4, ?_, d2, Fr_t b3 d3⟩
      unfold fX12_readPart bX12_readPart_0 bX12_readPart_56
      rw [gI12 23 rfl, ob_s, hs.2.2.2.1, if_pos rfl, gI12 19 rfl, ob_s, hs.2.1.1, if_pos hn2, ob_s, if_neg (fun z => z hn1), gR12 1 421 rfl rfl, ob_s, cV12, rI s hs, cS_l, hv, if_pos v1, cV12, b1, cS_l, gI12 23 rfl, ob_s, b2.2.2.2.1, if_neg (fun z => z rfl), cV12, d1, cS_l]
      rfl
theorem lvPart_p (hN1 : 1000 ≤ N) (hL : L ≤ 700) (hT : ∀ j, j < L → T j < 256) (hp : plA p) (hX : Lv T L p d (eC 34 (nI (a + 1))) (eR 419 (nI (a + 1)))) (e k : Nat) (Q : Nat → Int32) (he : e ≤ L) (hk : k ≤ e) (c2 : isS T L e 40 = true) : ∃ o, okO L e k Q d o ∧ (may T L e = false → o = .inl (1, e)) ∧ cO T L p (fX2_readsOperand N eC 34 (nI a)) e k Q o ∧ rK T L (fX12_readPart N eR 419 (nI a)) kU e k Q o := by
  have hA := tkA_le (T := T) he
  have hE := tkE_le (T := T) he
  have c3 : tkK T L e = 3 := (of_decide_eq_true c2).1
  have hkk : ¬ tkK T L e = 0 := by omega
  have hA2 := tkK_A hkk
  have hE2 := tkE_gt he hkk
  have hmay : may T L e = true := decide_eq_true (Or.inr (Or.inr c2))
  have hn1 : ¬ nI (tkK T L e) = (1 : Int32) := by rw [c3]; decide
  have hn2 : ¬ nI (tkK T L e) = (2 : Int32) := by rw [c3]; decide
  obtain ⟨o, p1, p0, p2, p3⟩ := hX (tkE T L e) k Q hE.2 (by omega)
  match o, p1, p2, p3 with
  | .inl (fl, e2), p1, p2, p3 =>
    have p1' : 1 ≤ fl ∧ fl ≤ 4 ∧ e2 ≤ L := p1
    refine ⟨.inl (fl, e2), p1, fun z => (by rw [hmay] at z; cases z), fun s hs => ?_, fun s hs => ?_⟩
    · obtain ⟨s2, a1, a2, a3⟩ := CPs_adv (N := N) hN1 hL hT hp he hs
      obtain ⟨s3, b1, b2, b3, b4⟩ := p2 s2 a2
      refine ⟨s3, ?_, b2, b3, Fr_t a3 b4⟩
      unfold fX2_readsOperand bX2_readsOperand_0
      rw [gR34, ob_s, gI10 0 rfl, ob_s, hs.2.2.1.1, if_pos hn1, ob_s, cV10, c_sgn (c := 40) (x := 40) hL hT hs rfl (by decide), cS_l, c2, if_neg (by decide), gR34, ob_s, cV10, a1, cS_l, cV34, nI_1, b1, cS_r]
    · obtain ⟨s2, a1, a2, a3⟩ := r_mk0 (N := N) (c := 40) (x := 40) hN1 hL hT he hs rfl (by decide) c2
      obtain ⟨s3, b1, b2, b3, b4⟩ := p3 s2 a2
      have b1' : eR 419 (nI (a + 1)) (mk s2) = some (.inl (), mk s3) := b1
      have hb : ¬ s3.1 419 23 = 0 := by rw [b2]; exact nI_b p1'.1 p1'.2.1
      refine ⟨s3, ?_, b2, b3, Fr_t a3 b4⟩
      unfold fX12_readPart bX12_readPart_0
      rw [gI12 23 rfl, ob_s, hs.2.2.2.1, if_pos rfl, gI12 19 rfl, ob_s, hs.2.1.1, if_pos hn2, ob_s, if_pos hn1, cV12, a1, cS_l, cV12, nI_1, b1', cS_l, cV12, rb_mark hb, cS_l]
      rfl
  | .inr (e2, k2, Q2), p1, p2, p3 =>
    obtain ⟨q1, q2, q3, q4, q5, q6⟩ := p1
    have hA3 := tkA_le (T := T) q2
    have hE3 := tkE_le (T := T) q2
    cases c4 : isS T L e2 41 with
    | true =>
      refine ⟨.inr (tkE T L e2, k2, Q2), ⟨by omega, hE3.2, by omega, by omega, q5, q6⟩, fun z => (by rw [hmay] at z; cases z), fun s hs => ?_, fun s hs => ?_⟩
      · obtain ⟨s2, a1, a2, a3⟩ := CPs_adv (N := N) hN1 hL hT hp he hs
        obtain ⟨s3, b1, b2, b4⟩ := p2 s2 a2
        obtain ⟨s4, d1, d2, d3⟩ := CPs_adv (N := N) hN1 hL hT hp q2 b2
        refine ⟨s4, ?_, d2, Fr_t a3 (Fr_t b4 d3)⟩
        unfold fX2_readsOperand bX2_readsOperand_0
        rw [gR34, ob_s, gI10 0 rfl, ob_s, hs.2.2.1.1, if_pos hn1, ob_s, cV10, c_sgn (c := 40) (x := 40) hL hT hs rfl (by decide), cS_l, c2, if_neg (by decide), gR34, ob_s, cV10, a1, cS_l, cV34, nI_1, b1, cS_l, gR34, ob_s, cV10, c_sgn (c := 41) (x := 41) hL hT b2 rfl (by decide), cS_l, c4, if_pos (by decide)]
        unfold bX2_readsOperand_107
        rw [gR34, ob_s, cV10, d1, cS_l]
      · obtain ⟨s2, a1, a2, a3⟩ := r_mk0 (N := N) (c := 40) (x := 40) hN1 hL hT he hs rfl (by decide) c2
        obtain ⟨s3, b1, b2, b4⟩ := p3 s2 a2
        have b1' : eR 419 (nI (a + 1)) (mk s2) = some (.inl (), mk s3) := b1
        obtain ⟨s4, d1, d2, d3⟩ := r_mk0 (N := N) (c := 41) (x := 41) hN1 hL hT q2 b2 rfl (by decide) c4
        refine ⟨s4, ?_, d2, Fr_t a3 (Fr_t b4 d3)⟩
        unfold fX12_readPart bX12_readPart_0
        rw [gI12 23 rfl, ob_s, hs.2.2.2.1, if_pos rfl, gI12 19 rfl, ob_s, hs.2.1.1, if_pos hn2, ob_s, if_pos hn1, cV12, a1, cS_l, cV12, nI_1, b1', cS_l, cV12, d1, cS_l]
        rfl
    | false =>
      refine ⟨.inl (1, e2), ⟨by omega, by omega, q2⟩, fun z => (by rw [hmay] at z; cases z), fun s hs => ?_, fun s hs => ?_⟩
      · obtain ⟨s2, a1, a2, a3⟩ := CPs_adv (N := N) hN1 hL hT hp he hs
        obtain ⟨s3, b1, b2, b4⟩ := p2 s2 a2
        obtain ⟨s4, d1, d2, d3, d4⟩ := c_ref (N := N) b2 (f := 1) (x := 1) rfl
        refine ⟨s4, ?_, d2, d3, Fr_t a3 (Fr_t b4 d4)⟩
        unfold fX2_readsOperand bX2_readsOperand_0
        rw [gR34, ob_s, gI10 0 rfl, ob_s, hs.2.2.1.1, if_pos hn1, ob_s, cV10, c_sgn (c := 40) (x := 40) hL hT hs rfl (by decide), cS_l, c2, if_neg (by decide), gR34, ob_s, cV10, a1, cS_l, cV34, nI_1, b1, cS_l, gR34, ob_s, cV10, c_sgn (c := 41) (x := 41) hL hT b2 rfl (by decide), cS_l, c4, if_neg (fun z => z rfl), cV34, d1, cS_r]
      · obtain ⟨s2, a1, a2, a3⟩ := r_mk0 (N := N) (c := 40) (x := 40) hN1 hL hT he hs rfl (by decide) c2
        obtain ⟨s3, b1, b2, b4⟩ := p3 s2 a2
        have b1' : eR 419 (nI (a + 1)) (mk s2) = some (.inl (), mk s3) := b1
        obtain ⟨s4, d1, d2, d3, d4⟩ := r_mk1 (N := N) (c := 41) (x := 41) hL hT b2 rfl (by decide) c4
        refine ⟨s4, ?_, d2, d3, Fr_t a3 (Fr_t b4 d4)⟩
        unfold fX12_readPart bX12_readPart_0
        rw [gI12 23 rfl, ob_s, hs.2.2.2.1, if_pos rfl, gI12 19 rfl, ob_s, hs.2.1.1, if_pos hn2, ob_s, if_pos hn1, cV12, a1, cS_l, cV12, nI_1, b1', cS_l, cV12, d1, cS_l]
        rfl
theorem lvPart (hN1 : 1000 ≤ N) (hL : L ≤ 700) (hT : ∀ j, j < L → T j < 256) (hp : plA p) (hX : Lv T L p d (eC 34 (nI (a + 1))) (eR 419 (nI (a + 1)))) (Eb : ∀ x (s : sg), ¬ s.1 419 23 = 0 → eR 419 x (mk s) = some (.inl (), mk s)) : Lv T L p d (fX2_readsOperand N eC 34 (nI a)) (fX12_readPart N eR 419 (nI a)) := by
  intro e k Q he hk
  by_cases c1 : tkK T L e = 1
  · exact lvPart_w hN1 hL hT hp e k Q he hk c1
  cases c2 : isS T L e 40 with
  | true => exact lvPart_p hN1 hL hT hp hX e k Q he hk c2
  | false =>
  have h4 := tkK_4 (T := T) (L := L) (e := e)
  have hA := tkA_le (T := T) he
  have hE := tkE_le (T := T) he
  have hn1 : ¬ nI (tkK T L e) = (1 : Int32) := nI_ne (c := 1) (x := 1) rfl (by omega) (by omega) c1
  have cX : ∀ s, CPs T L p s e k Q → fX2_readsOperand N eC 34 (nI a) (mk s) = cS (fX2_lookAtNumber N 34 (mk s)) fun r8 c9 => cV 4 (p + 4) c9 (fX4_emits N (p + 4) r8 c9) fun (_ : Unit) c10 => bX2_readsOperand_107 N eC 34 c10 := fun s hs => by
    unfold fX2_readsOperand bX2_readsOperand_0
    rw [gR34, ob_s, gI10 0 rfl, ob_s, hs.2.2.1.1, if_pos hn1, ob_s, cV10, c_sgn (c := 40) (x := 40) hL hT hs rfl (by decide), cS_l, c2, if_pos (by decide), gR34p, ob_s, hs.1, gR38 hp, ob_s, cV34]
  by_cases c5 : nF T L e = 0
  · obtain ⟨f1, f2⟩ := nF_0 c5
    have hkk : ¬ tkK T L e = 0 := by omega
    have hA2 := tkK_A hkk
    have hE2 := tkE_gt he hkk
    have hv := nV_lt hT he f1 f2
    obtain ⟨v1, v2, v3⟩ := nI_lo hv
    have hmay : may T L e = true := decide_eq_true (Or.inl f1)
    have hn2 : nI (tkK T L e) = (2 : Int32) := by rw [f1]; rfl
    refine ⟨.inr (tkE T L e, k + 1, up1 Q k (nI (nV T L e))), ⟨by omega, hE.2, by omega, by omega, fun j hj => up1_ne Q _ (by omega), WL_mono (WL_num v1 v2) (Nat.zero_le _)⟩, fun z => (by rw [hmay] at z; cases z), fun s hs => ?_, fun s hs => ?_⟩
    · obtain ⟨s3, b1, b2, b3⟩ := c_emit (N := N) hp (by omega) hs v3
      obtain ⟨s4, d1, d2, d3⟩ := CPs_adv (N := N) hN1 hL hT hp he b2
      refine ⟨s4, ?_, d2, Fr_t b3 d3⟩
      unfold bX2_readsOperand_107 at cX
      rw [cX s hs, c_look0 hN1 hL hT he hs c5, cS_l, cV44 hp, b1, cS_l, gR34, ob_s, cV10, d1, cS_l]
    · obtain ⟨s3, b1, b2, b3⟩ := r_rn0 (N := N) (lo := 0) (hi := 9999) (x := 0) (y := 9999) hN1 hL hT he hs rfl rfl (by omega) ((nG_9 hT he).trans c5)
      obtain ⟨s4, d1, d2, d3⟩ := r_lay (N := N) (by omega) b2 (nI (nV T L e))
      refine ⟨s4, ?_, d2, Fr_t b3 d3⟩
      unfold fX12_readPart bX12_readPart_0
      rw [gI12 23 rfl, ob_s, hs.2.2.2.1, if_pos rfl, gI12 19 rfl, ob_s, hs.2.1.1, if_neg (fun z => z hn2), cV12, b1, cS_l, cV12, d1, cS_l]
      rfl
  · have hf2 := nF_2 T L e
    refine ⟨.inl (nF T L e, e), ⟨by omega, by omega, he⟩, fun z => ?_, fun s hs => ?_, fun s hs => ?_⟩
    · have z2 := of_decide_eq_false z
      have : nF T L e = 1 := by
        unfold nF
        rw [if_neg (fun w => z2 (Or.inl w))]
      rw [this]
    · obtain ⟨s3, b1, b2⟩ := c_look1 (N := N) he hs hL c5
      exact ⟨s3, by rw [cX s hs, b1, cS_r], b2⟩
    · by_cases c6 : tkK T L e = 2
      · have hn2 : nI (tkK T L e) = (2 : Int32) := by rw [c6]; rfl
        obtain ⟨s3, b1, b2, b3⟩ := r_rn1 (N := N) (lo := 0) (hi := 9999) (x := 0) (y := 9999) hL hT he hs rfl rfl (by omega) (by omega) (fun z => c5 ((nG_9 hT he).symm.trans z))
        rw [nG_9 hT he] at b2
        have hb : ¬ s3.1 419 23 = 0 := by rw [b2]; exact nI_b (by omega) (by omega)
        refine ⟨s3, ?_, b2, b3⟩
        unfold fX12_readPart bX12_readPart_0
        rw [gI12 23 rfl, ob_s, hs.2.2.2.1, if_pos rfl, gI12 19 rfl, ob_s, hs.2.1.1, if_neg (fun z => z hn2), cV12, b1, cS_l, cV12, rb_lay hb, cS_l]
        rfl
      · have hn2 : ¬ nI (tkK T L e) = (2 : Int32) := nI_ne (c := 2) (x := 2) rfl (by omega) (by omega) c6
        have ef : nF T L e = 1 := by unfold nF; rw [if_neg c6]
        obtain ⟨s3, b1, b2, b3⟩ := r_mk1 (N := N) (c := 40) (x := 40) hL hT hs rfl (by decide) c2
        have hb : ¬ s3.1 419 23 = 0 := by rw [b2]; exact nI_b (by omega) (by omega)
        refine ⟨s3, ?_, by rw [ef]; exact b2, b3⟩
        unfold fX12_readPart bX12_readPart_0
        rw [gI12 23 rfl, ob_s, hs.2.2.2.1, if_pos rfl, gI12 19 rfl, ob_s, hs.2.1.1, if_pos hn2, ob_s, if_pos hn1, cV12, b1, cS_l, cV12, Eb _ s3 hb, cS_l, cV12, rb_mark hb, cS_l]
        rfl
end LP
