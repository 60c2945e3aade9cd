/- needs: 78.lrule -/
/-! a whole line: which word it begins with -/
def lWs : List (List Nat) := [[115, 117, 110], [99, 108, 111, 117, 100], [119, 105, 100, 101], [110, 101, 97, 114], [105, 110, 115, 105, 100, 101], [100, 97, 121], [109, 111, 118, 101], [99, 111, 108, 100], [114, 117, 108, 101]]
theorem sgs_2 : sgs 2 46 0 0 = lWs := by decide +kernel
def kWs : List (List Nat) := [[119, 105, 100, 101], [110, 101, 97, 114], [105, 110, 115, 105, 100, 101]]
theorem wls_20 : wls 20 3 0 = kWs := by decide +kernel
theorem okW_34 : okW 34 3 := by unfold okW; decide +kernel
theorem sw_34 : sw 34 3 0 = [115, 117, 110] := by decide +kernel
theorem okW_35 : okW 35 5 := by unfold okW; decide +kernel
theorem sw_35 : sw 35 5 0 = [99, 108, 111, 117, 100] := by decide +kernel
theorem okW_31 : okW 31 3 := by unfold okW; decide +kernel
theorem sw_31 : sw 31 3 0 = [100, 97, 121] := by decide +kernel
theorem okW_32 : okW 32 4 := by unfold okW; decide +kernel
theorem sw_32 : sw 32 4 0 = [109, 111, 118, 101] := by decide +kernel
theorem okW_33 : okW 33 4 := by unfold okW; decide +kernel
theorem sw_33 : sw 33 4 0 = [99, 111, 108, 100] := by decide +kernel
theorem okW_36 : okW 36 4 := by unfold okW; decide +kernel
theorem sw_36 : sw 36 4 0 = [114, 117, 108, 101] := by decide +kernel
theorem and0 (x : Int32) : (0 : Int32) &&& x = 0 := by
  apply Int32.toBitVec_inj.mp
  simp
theorem or0 (x : Int32) : x ||| (0 : Int32) = x := by
  apply Int32.toBitVec_inj.mp
  simp
theorem wof_n (o : Nat) {k : Nat} (w : List Nat) (h : ¬ k = 1) : ∀ f i, wof o k w f i = -1
  | 0, _ => rfl
  | f + 1, i => by rw [wof_s, if_neg (fun z => h z.1), wof_n o w h f]
def dn (V : Nat → Nat) : Nat := V 8 + 2 * V 9 + 4 * V 10
theorem dn_0 : ∀ a, a < 2 → ∀ b, b < 2 → ∀ c, c < 2 → ((1 : Int32) &&& nI (a + 2 * b + 4 * c) = 0 ↔ a = 0) ∧ nI (a + 2 * b + 4 * c) ||| 1 = nI (1 + 2 * b + 4 * c) := by decide +kernel
theorem dn_1 : ∀ a, a < 2 → ∀ b, b < 2 → ∀ c, c < 2 → ((2 : Int32) &&& nI (a + 2 * b + 4 * c) = 0 ↔ b = 0) ∧ nI (a + 2 * b + 4 * c) ||| 2 = nI (a + 2 * 1 + 4 * c) := by decide +kernel
theorem dn_2 : ∀ a, a < 2 → ∀ b, b < 2 → ∀ c, c < 2 → ((4 : Int32) &&& nI (a + 2 * b + 4 * c) = 0 ↔ c = 0) ∧ nI (a + 2 * b + 4 * c) ||| 4 = nI (a + 2 * b + 4 * 1) := by decide +kernel
section LDI
variable {N : Nat} {T : Nat → Nat} {L p e : Nat} {X : pX} {R : pX → Prop}
theorem Ln_cv {α : Type} {F F2 : mm_C → mR Unit} {G : mm_C → mR Unit} {G2 K : mm_C → mR α} (hF : ∀ s, CX T L p s e X → F2 (mk s) = cS (F (mk s)) fun (_ : Unit) c => some (.inl (), c)) (hG : ∀ s, RX T L s e X → G2 (mk s) = cS (G (mk s)) fun (_ : Unit) c => K c) : ∀ o, Ln T L p F G kU e X R o → Ln T L p F2 G2 K e X R o
  | .inl (f, e1), ⟨h0, h1, h2⟩ => ⟨h0, fun s hs => by
      obtain ⟨s', b1, b2⟩ := h1 s hs
      exact ⟨s', by rw [hF s hs, b1, cS_r], b2⟩, fun s hs => by
      obtain ⟨s', b1, b2⟩ := h2 s hs
      have b1' : G (mk s) = some (.inl (), mk s') := b1
      exact ⟨s', by rw [hG s hs, b1', cS_l], b2⟩⟩
  | .inr (e1, X1), ⟨h0, h1, h2⟩ => ⟨h0, fun s hs => by
      obtain ⟨s', b1, b2⟩ := h1 s hs
      exact ⟨s', by rw [hF s hs, b1, cS_l], b2⟩, fun s hs => by
      obtain ⟨s', b1, b2⟩ := h2 s hs
      have b1' : G (mk s) = some (.inl (), mk s') := b1
      exact ⟨s', by rw [hG s hs, b1', cS_l], b2⟩⟩
theorem Ln_eq {α : Type} {R2 : pX → Prop} {F F2 : mm_C → mR Unit} {G G2 K : mm_C → mR α} (hR : ∀ X1, R X1 → R2 X1) (hF : ∀ s, CX T L p s e X → F2 (mk s) = F (mk s)) (hG : ∀ s, RX T L s e X → G2 (mk s) = G (mk s)) : ∀ o, Ln T L p F G K e X R o → Ln T L p F2 G2 K e X R2 o
  | .inl (f, e1), ⟨h0, h1, h2⟩ => ⟨h0, fun s hs => by rw [hF s hs]; exact h1 s hs, fun s hs => by rw [hG s hs]; exact h2 s hs⟩
  | .inr (e1, X1), ⟨h0, h1, h2⟩ => ⟨⟨h0.1, h0.2.1, h0.2.2.1, hR X1 h0.2.2.2⟩, fun s hs => by rw [hF s hs]; exact h1 s hs, fun s hs => by rw [hG s hs]; exact h2 s hs⟩
theorem r_wd {o n k : Nat} {Q : Nat → Int32} {s : sg} {l w : List Nat} (hN1 : 1000 ≤ N) (hw9 : okW o n) (hl : sw o n 0 = l) (hL : L ≤ 700) (hT : ∀ j, j < L → T j < 256) (he : e ≤ L) (k1 : tkK T L e = 1) (hw : tW T L e = w) (h : RPs T L s e k Q) : fX12_is N 419 (1000000 + o) (mk s) = some (.inl (sk_i (decide (w = l))), mk s) := by
  have e1 : isW T L e l = decide (w = l) := by
    unfold isW
    rw [hw, k1]
    simp
  rw [r_wrd hN1 hw9 hL hT he h, hl, e1]
theorem r_kd {k : Nat} {Q : Nat → Int32} {s : sg} {w : List Nat} (hN1 : 1000 ≤ N) (hL : L ≤ 700) (hT : ∀ j, j < L → T j < 256) (he : e ≤ L) (k1 : tkK T L e = 1) (hw : tW T L e = w) (h : RPs T L s e k Q) : fX12_wordOf N 419 420 (mk s) = some (.inl (lk w kWs 0), mk s) := by
  rw [r_kinds hN1 hL hT h.1 h.2.1 tkK_4 (tkE_le he).1 (tkE_le he).2 h.2.2.2.1, k1, wof_lk, wls_20, ← hw]
  rfl
theorem c_lw {k : Nat} {Q : Nat → Int32} {s : sg} {w : List Nat} (hN1 : 1000 ≤ N) (hL : L ≤ 700) (hT : ∀ j, j < L → T j < 256) (he : e ≤ L) (k1 : tkK T L e = 1) (hw : tW T L e = w) (h : CPs T L p s e k Q) : fX10_indexIn N 35 (1000000 + 2) (mk s) = some (.inl (lk w lWs 0), mk s) := by
  rw [c_indexIn hN1 okW_2 hL hT h.2.1 h.2.2.1 tkK_4 (tkE_le he).1 (tkE_le he).2, if_pos k1, ixf_lk, sgs_2, ← hw]
  rfl
theorem line_sun (hN1 : 1000 ≤ N) (hL : L ≤ 700) (hT : ∀ j, j < L → T j < 256) (hp : plA p) (he : e ≤ L) (W : WX e X) (k1 : tkK T L e = 1) (hw : tW T L e = [115, 117, 110]) : ∃ o, Ln T L p (fX2_readsLine N 34) (bX12_readLine_0 N 419 (nI (dn X.1))) (bX12_readLine_213 N 419 (nI (dn X.1)) 0) e X (sFl X) o := by
  obtain ⟨o, ho⟩ := lnPart hN1 hL hT hp he (by omega) W true
  refine ⟨o, Ln_cv (fun s hs => ?_) (fun s hs => ?_) o ho⟩
  · unfold fX2_readsLine bX2_readsLine_0
    rw [gR34, ob_s, cV10, c_lw hN1 hL hT he k1 hw hs.1, cS_l, show lk [115, 117, 110] lWs 0 = (0 : Int32) by decide, if_pos (by decide)]
    unfold bX2_readsLine_60 bX2_readsLine_70
    rw [if_neg (by decide), cV34]
    rfl
  · unfold bX12_readLine_0
    rw [cV12, r_wd hN1 okW_31 sw_31 hL hT he k1 hw hs.1, cS_l, if_pos (by decide), cV12, r_wd hN1 okW_32 sw_32 hL hT he k1 hw hs.1, cS_l, if_pos (by decide), cV12, r_wd hN1 okW_33 sw_33 hL hT he k1 hw hs.1, cS_l, if_pos (by decide)]
    unfold bX12_readLine_43 bX12_readLine_64
    rw [gR12 0 420 rfl rfl, ob_s, cV12, r_kd hN1 hL hT he k1 hw hs.1, cS_l, show lk [115, 117, 110] kWs 0 = (-1 : Int32) by decide, and0, if_pos rfl, if_pos (by decide), if_pos rfl, cV12, r_wd hN1 okW_34 sw_34 hL hT he k1 hw hs.1, cS_l, if_neg (by decide), cV12]
    rfl
theorem line_cloud (hN1 : 1000 ≤ N) (hL : L ≤ 700) (hT : ∀ j, j < L → T j < 256) (hp : plA p) (he : e ≤ L) (W : WX e X) (k1 : tkK T L e = 1) (hw : tW T L e = [99, 108, 111, 117, 100]) : ∃ o, Ln T L p (fX2_readsLine N 34) (bX12_readLine_0 N 419 (nI (dn X.1))) (bX12_readLine_213 N 419 (nI (dn X.1)) 0) e X (sFl X) o := by
  obtain ⟨o, ho⟩ := lnPart hN1 hL hT hp he (by omega) W false
  refine ⟨o, Ln_cv (fun s hs => ?_) (fun s hs => ?_) o ho⟩
  · unfold fX2_readsLine bX2_readsLine_0
    rw [gR34, ob_s, cV10, c_lw hN1 hL hT he k1 hw hs.1, cS_l, show lk [99, 108, 111, 117, 100] lWs 0 = (1 : Int32) by decide, if_neg (by decide), if_pos (by decide)]
    unfold bX2_readsLine_60 bX2_readsLine_70
    rw [if_pos (by decide), cV34]
    rfl
  · unfold bX12_readLine_0
    rw [cV12, r_wd hN1 okW_31 sw_31 hL hT he k1 hw hs.1, cS_l, if_pos (by decide), cV12, r_wd hN1 okW_32 sw_32 hL hT he k1 hw hs.1, cS_l, if_pos (by decide), cV12, r_wd hN1 okW_33 sw_33 hL hT he k1 hw hs.1, cS_l, if_pos (by decide)]
    unfold bX12_readLine_43 bX12_readLine_64
    rw [gR12 0 420 rfl rfl, ob_s, cV12, r_kd hN1 hL hT he k1 hw hs.1, cS_l, show lk [99, 108, 111, 117, 100] kWs 0 = (-1 : Int32) by decide, and0, if_pos rfl, if_pos (by decide), if_pos rfl, cV12, r_wd hN1 okW_34 sw_34 hL hT he k1 hw hs.1, cS_l, if_pos (by decide), cV12, r_wd hN1 okW_35 sw_35 hL hT he k1 hw hs.1, cS_l, if_neg (by decide), cV12]
    rfl
theorem line_wide (hN1 : 1000 ≤ N) (hL : L ≤ 700) (hT : ∀ j, j < L → T j < 256) (hp : plA p) (he : e ≤ L) (W : WX e X) (k1 : tkK T L e = 1) (hw : tW T L e = [119, 105, 100, 101]) : ∃ o, Ln T L p (fX2_readsLine N 34) (bX12_readLine_0 N 419 (nI (dn X.1))) (bX12_readLine_213 N 419 (nI (dn X.1)) 0) e X (sFl X) o := by
  obtain ⟨o, ho⟩ := lnShot hN1 hL hT hp he (by omega) W (kd := 0) (by omega)
  refine ⟨o, Ln_cv (fun s hs => ?_) (fun s hs => ?_) o ho⟩
  · unfold fX2_readsLine bX2_readsLine_0
    rw [gR34, ob_s, cV10, c_lw hN1 hL hT he k1 hw hs.1, cS_l, show lk [119, 105, 100, 101] lWs 0 = (2 : Int32) by decide, if_neg (by decide), if_neg (by decide), if_pos (by decide)]
    unfold bX2_readsLine_76
    rw [cV34]
    rfl
  · unfold bX12_readLine_0
    rw [cV12, r_wd hN1 okW_31 sw_31 hL hT he k1 hw hs.1, cS_l, if_pos (by decide), cV12, r_wd hN1 okW_32 sw_32 hL hT he k1 hw hs.1, cS_l, if_pos (by decide), cV12, r_wd hN1 okW_33 sw_33 hL hT he k1 hw hs.1, cS_l, if_pos (by decide)]
    unfold bX12_readLine_43 bX12_readLine_64
    rw [gR12 0 420 rfl rfl, ob_s, cV12, r_kd hN1 hL hT he k1 hw hs.1, cS_l, show lk [119, 105, 100, 101] kWs 0 = nI 0 by decide, and0, if_pos rfl, if_pos (by decide), if_neg (by decide), cV12]
theorem line_near (hN1 : 1000 ≤ N) (hL : L ≤ 700) (hT : ∀ j, j < L → T j < 256) (hp : plA p) (he : e ≤ L) (W : WX e X) (k1 : tkK T L e = 1) (hw : tW T L e = [110, 101, 97, 114]) : ∃ o, Ln T L p (fX2_readsLine N 34) (bX12_readLine_0 N 419 (nI (dn X.1))) (bX12_readLine_213 N 419 (nI (dn X.1)) 0) e X (sFl X) o := by
  obtain ⟨o, ho⟩ := lnShot hN1 hL hT hp he (by omega) W (kd := 1) (by omega)
  refine ⟨o, Ln_cv (fun s hs => ?_) (fun s hs => ?_) o ho⟩
  · unfold fX2_readsLine bX2_readsLine_0
    rw [gR34, ob_s, cV10, c_lw hN1 hL hT he k1 hw hs.1, cS_l, show lk [110, 101, 97, 114] lWs 0 = (3 : Int32) by decide, if_neg (by decide), if_neg (by decide), if_neg (by decide), if_pos (by decide)]
    unfold bX2_readsLine_76
    rw [cV34]
    rfl
  · unfold bX12_readLine_0
    rw [cV12, r_wd hN1 okW_31 sw_31 hL hT he k1 hw hs.1, cS_l, if_pos (by decide), cV12, r_wd hN1 okW_32 sw_32 hL hT he k1 hw hs.1, cS_l, if_pos (by decide), cV12, r_wd hN1 okW_33 sw_33 hL hT he k1 hw hs.1, cS_l, if_pos (by decide)]
    unfold bX12_readLine_43 bX12_readLine_64
    rw [gR12 0 420 rfl rfl, ob_s, cV12, r_kd hN1 hL hT he k1 hw hs.1, cS_l, show lk [110, 101, 97, 114] kWs 0 = nI 1 by decide, and0, if_pos rfl, if_pos (by decide), if_neg (by decide), cV12]
theorem line_inside (hN1 : 1000 ≤ N) (hL : L ≤ 700) (hT : ∀ j, j < L → T j < 256) (hp : plA p) (he : e ≤ L) (W : WX e X) (k1 : tkK T L e = 1) (hw : tW T L e = [105, 110, 115, 105, 100, 101]) : ∃ o, Ln T L p (fX2_readsLine N 34) (bX12_readLine_0 N 419 (nI (dn X.1))) (bX12_readLine_213 N 419 (nI (dn X.1)) 0) e X (sFl X) o := by
  obtain ⟨o, ho⟩ := lnShot hN1 hL hT hp he (by omega) W (kd := 2) (by omega)
  refine ⟨o, Ln_cv (fun s hs => ?_) (fun s hs => ?_) o ho⟩
  · unfold fX2_readsLine bX2_readsLine_0
    rw [gR34, ob_s, cV10, c_lw hN1 hL hT he k1 hw hs.1, cS_l, show lk [105, 110, 115, 105, 100, 101] lWs 0 = (4 : Int32) by decide, if_neg (by decide), if_neg (by decide), if_neg (by decide), if_neg (by decide), if_pos (by decide)]
    unfold bX2_readsLine_76
    rw [cV34]
    rfl
  · unfold bX12_readLine_0
    rw [cV12, r_wd hN1 okW_31 sw_31 hL hT he k1 hw hs.1, cS_l, if_pos (by decide), cV12, r_wd hN1 okW_32 sw_32 hL hT he k1 hw hs.1, cS_l, if_pos (by decide), cV12, r_wd hN1 okW_33 sw_33 hL hT he k1 hw hs.1, cS_l, if_pos (by decide)]
    unfold bX12_readLine_43 bX12_readLine_64
    rw [gR12 0 420 rfl rfl, ob_s, cV12, r_kd hN1 hL hT he k1 hw hs.1, cS_l, show lk [105, 110, 115, 105, 100, 101] kWs 0 = nI 2 by decide, and0, if_pos rfl, if_pos (by decide), if_neg (by decide), cV12]
theorem line_day (hN1 : 1000 ≤ N) (hL : L ≤ 700) (hT : ∀ j, j < L → T j < 256) (hp : plA p) (he : e ≤ L) (W : WX e X) (k1 : tkK T L e = 1) (hw : tW T L e = [100, 97, 121]) : ∃ o, Ln T L p (fX2_readsLine N 34) (bX12_readLine_0 N 419 (nI (dn X.1))) (bX12_readLine_213 N 419 (nI (dn X.1)) 1) e X (fun X1 => nI (dn X.1) ||| 1 = nI (dn X1.1)) o := by
  have h8 := W.2.2.2.2.2.2.2.2.1
  have f0 := h8 0 (by omega)
  have f1 := h8 1 (by omega)
  have f2 := h8 2 (by omega)
  have hd := dn_0 (X.1 8) (Nat.lt_succ_of_le f0) (X.1 9) (Nat.lt_succ_of_le f1) (X.1 10) (Nat.lt_succ_of_le f2)
  obtain ⟨o, ho⟩ := lnOnce (N := N) (j := 0) (lo := 10) (hi := 480) (x := 10) (y := 480) (v1 := nI (dn X.1)) (v2 := 1) hN1 hL hT hp he (by omega) W (by omega) rfl rfl (by omega) (by omega) hd.1 rfl rfl (by omega)
  refine ⟨o, Ln_eq (fun X1 hR => ?_) (fun s hs => ?_) (fun s hs => ?_) o ho⟩
  · have r0 := hR 0 (by omega)
    have r1 := hR 1 (by omega)
    have r2 := hR 2 (by omega)
    have ed : dn X1.1 = 1 + 2 * X.1 9 + 4 * X.1 10 := by
      show X1.1 (8 + 0) + 2 * X1.1 (8 + 1) + 4 * X1.1 (8 + 2) = _
      rw [r0, r1, r2]
      rfl
    rw [ed]
    exact hd.2
  · unfold fX2_readsLine bX2_readsLine_0
    rw [gR34, ob_s, cV10, c_lw hN1 hL hT he k1 hw hs.1, cS_l, show lk [100, 97, 121] lWs 0 = (5 : Int32) by decide, if_neg (by decide), if_neg (by decide), if_neg (by decide), if_neg (by decide), if_neg (by decide), if_pos (by decide)]
    rfl
  · have h64 : ∀ (c : mm_C) (v3 : Int32), bX12_readLine_64 N 419 (nI (dn X.1)) (1 : Int32) v3 c = r64 N 0 10 480 (nI (dn X.1)) 1 c := by
      intro c v3
      have h79 : ∀ c, bX12_readLine_79 N 419 (nI (dn X.1)) (1 : Int32) c = r79 N 0 10 480 (nI (dn X.1)) 1 c := by
        intro c
        unfold bX12_readLine_79 r79
        rw [if_neg (fun z => z rfl)]
        rfl
      unfold bX12_readLine_64 r64
      rw [if_neg (by decide)]
      simp only [h79]
    unfold bX12_readLine_0
    rw [cV12, r_wd hN1 okW_31 sw_31 hL hT he k1 hw hs.1, cS_l, if_neg (by decide)]
    unfold bX12_readLine_43 rOn
    rw [gR12 0 420 rfl rfl, ob_s, cV12, r_kd hN1 hL hT he k1 hw hs.1, cS_l]
    simp only [h64]
theorem line_move (hN1 : 1000 ≤ N) (hL : L ≤ 700) (hT : ∀ j, j < L → T j < 256) (hp : plA p) (he : e ≤ L) (W : WX e X) (k1 : tkK T L e = 1) (hw : tW T L e = [109, 111, 118, 101]) : ∃ o, Ln T L p (fX2_readsLine N 34) (bX12_readLine_0 N 419 (nI (dn X.1))) (bX12_readLine_213 N 419 (nI (dn X.1)) 2) e X (fun X1 => nI (dn X.1) ||| 2 = nI (dn X1.1)) o := by
  have h8 := W.2.2.2.2.2.2.2.2.1
  have f0 := h8 0 (by omega)
  have f1 := h8 1 (by omega)
  have f2 := h8 2 (by omega)
  have hd := dn_1 (X.1 8) (Nat.lt_succ_of_le f0) (X.1 9) (Nat.lt_succ_of_le f1) (X.1 10) (Nat.lt_succ_of_le f2)
  obtain ⟨o, ho⟩ := lnOnce (N := N) (j := 1) (lo := 0) (hi := 120) (x := 0) (y := 120) (v1 := nI (dn X.1)) (v2 := 2) hN1 hL hT hp he (by omega) W (by omega) rfl rfl (by omega) (by omega) hd.1 rfl rfl (by omega)
  refine ⟨o, Ln_eq (fun X1 hR => ?_) (fun s hs => ?_) (fun s hs => ?_) o ho⟩
  · have r0 := hR 0 (by omega)
    have r1 := hR 1 (by omega)
    have r2 := hR 2 (by omega)
    have ed : dn X1.1 = X.1 8 + 2 * 1 + 4 * X.1 10 := by
      show X1.1 (8 + 0) + 2 * X1.1 (8 + 1) + 4 * X1.1 (8 + 2) = _
      rw [r0, r1, r2]
      rfl
    rw [ed]
    exact hd.2
  · unfold fX2_readsLine bX2_readsLine_0
    rw [gR34, ob_s, cV10, c_lw hN1 hL hT he k1 hw hs.1, cS_l, show lk [109, 111, 118, 101] lWs 0 = (6 : Int32) by decide, if_neg (by decide), if_neg (by decide), if_neg (by decide), if_neg (by decide), if_neg (by decide), if_neg (by decide), if_pos (by decide)]
    rfl
  · have h64 : ∀ (c : mm_C) (v3 : Int32), bX12_readLine_64 N 419 (nI (dn X.1)) (2 : Int32) v3 c = r64 N 1 0 120 (nI (dn X.1)) 2 c := by
      intro c v3
      have h79 : ∀ c, bX12_readLine_79 N 419 (nI (dn X.1)) (2 : Int32) c = r79 N 1 0 120 (nI (dn X.1)) 2 c := by
        intro c
        unfold bX12_readLine_79 r79
        rw [if_pos (by decide), if_neg (fun z => z rfl)]
        rfl
      unfold bX12_readLine_64 r64
      rw [if_neg (by decide)]
      simp only [h79]
    unfold bX12_readLine_0
    rw [cV12, r_wd hN1 okW_31 sw_31 hL hT he k1 hw hs.1, cS_l, if_pos (by decide), cV12, r_wd hN1 okW_32 sw_32 hL hT he k1 hw hs.1, cS_l, if_neg (by decide)]
    unfold bX12_readLine_43 rOn
    rw [gR12 0 420 rfl rfl, ob_s, cV12, r_kd hN1 hL hT he k1 hw hs.1, cS_l]
    simp only [h64]
theorem line_cold (hN1 : 1000 ≤ N) (hL : L ≤ 700) (hT : ∀ j, j < L → T j < 256) (hp : plA p) (he : e ≤ L) (W : WX e X) (k1 : tkK T L e = 1) (hw : tW T L e = [99, 111, 108, 100]) : ∃ o, Ln T L p (fX2_readsLine N 34) (bX12_readLine_0 N 419 (nI (dn X.1))) (bX12_readLine_213 N 419 (nI (dn X.1)) 4) e X (fun X1 => nI (dn X.1) ||| 4 = nI (dn X1.1)) o := by
  have h8 := W.2.2.2.2.2.2.2.2.1
  have f0 := h8 0 (by omega)
  have f1 := h8 1 (by omega)
  have f2 := h8 2 (by omega)
  have hd := dn_2 (X.1 8) (Nat.lt_succ_of_le f0) (X.1 9) (Nat.lt_succ_of_le f1) (X.1 10) (Nat.lt_succ_of_le f2)
  obtain ⟨o, ho⟩ := lnOnce (N := N) (j := 2) (lo := 0) (hi := 9) (x := 0) (y := 9) (v1 := nI (dn X.1)) (v2 := 4) hN1 hL hT hp he (by omega) W (by omega) rfl rfl (by omega) (by omega) hd.1 rfl rfl (by omega)
  refine ⟨o, Ln_eq (fun X1 hR => ?_) (fun s hs => ?_) (fun s hs => ?_) o ho⟩
  · have r0 := hR 0 (by omega)
    have r1 := hR 1 (by omega)
    have r2 := hR 2 (by omega)
    have ed : dn X1.1 = X.1 8 + 2 * X.1 9 + 4 * 1 := by
      show X1.1 (8 + 0) + 2 * X1.1 (8 + 1) + 4 * X1.1 (8 + 2) = _
      rw [r0, r1, r2]
      rfl
    rw [ed]
    exact hd.2
  · unfold fX2_readsLine bX2_readsLine_0
    rw [gR34, ob_s, cV10, c_lw hN1 hL hT he k1 hw hs.1, cS_l, show lk [99, 111, 108, 100] lWs 0 = (7 : Int32) by decide, if_neg (by decide), if_neg (by decide), if_neg (by decide), if_neg (by decide), if_neg (by decide), if_neg (by decide), if_neg (by decide), if_pos (by decide)]
    rfl
  · have h64 : ∀ (c : mm_C) (v3 : Int32), bX12_readLine_64 N 419 (nI (dn X.1)) (4 : Int32) v3 c = r64 N 2 0 9 (nI (dn X.1)) 4 c := by
      intro c v3
      have h79 : ∀ c, bX12_readLine_79 N 419 (nI (dn X.1)) (4 : Int32) c = r79 N 2 0 9 (nI (dn X.1)) 4 c := by
        intro c
        unfold bX12_readLine_79 r79
        rw [if_pos (by decide), if_pos (by decide)]
        rfl
      unfold bX12_readLine_64 r64
      rw [if_neg (by decide)]
      simp only [h79]
    unfold bX12_readLine_0
    rw [cV12, r_wd hN1 okW_31 sw_31 hL hT he k1 hw hs.1, cS_l, if_pos (by decide), cV12, r_wd hN1 okW_32 sw_32 hL hT he k1 hw hs.1, cS_l, if_pos (by decide), cV12, r_wd hN1 okW_33 sw_33 hL hT he k1 hw hs.1, cS_l, if_neg (by decide)]
    unfold bX12_readLine_43 rOn
    rw [gR12 0 420 rfl rfl, ob_s, cV12, r_kd hN1 hL hT he k1 hw hs.1, cS_l]
    simp only [h64]
theorem line_rule (hN1 : 1000 ≤ N) (hL : L ≤ 700) (hT : ∀ j, j < L → T j < 256) (hp : plA p) (he : e ≤ L) (W : WX e X) (k1 : tkK T L e = 1) (hw : tW T L e = [114, 117, 108, 101]) : ∃ o, Ln T L p (fX2_readsLine N 34) (bX12_readLine_0 N 419 (nI (dn X.1))) (bX12_readLine_213 N 419 (nI (dn X.1)) 0) e X (sFl X) o := by
  obtain ⟨o, ho⟩ := lnRule hN1 hL hT hp he (by omega) W
  refine ⟨o, Ln_cv (fun s hs => ?_) (fun s hs => ?_) o ho⟩
  · unfold fX2_readsLine bX2_readsLine_0
    rw [gR34, ob_s, cV10, c_lw hN1 hL hT he k1 hw hs.1, cS_l, show lk [114, 117, 108, 101] lWs 0 = (8 : Int32) by decide, if_neg (by decide), if_neg (by decide), if_neg (by decide), if_neg (by decide), if_neg (by decide), if_neg (by decide), if_neg (by decide), if_neg (by decide), if_pos (by decide)]
    rw [cV34]
  · unfold bX12_readLine_0
    rw [cV12, r_wd hN1 okW_31 sw_31 hL hT he k1 hw hs.1, cS_l, if_pos (by decide), cV12, r_wd hN1 okW_32 sw_32 hL hT he k1 hw hs.1, cS_l, if_pos (by decide), cV12, r_wd hN1 okW_33 sw_33 hL hT he k1 hw hs.1, cS_l, if_pos (by decide)]
    unfold bX12_readLine_43 bX12_readLine_64
    rw [gR12 0 420 rfl rfl, ob_s, cV12, r_kd hN1 hL hT he k1 hw hs.1, cS_l, show lk [114, 117, 108, 101] kWs 0 = (-1 : Int32) by decide, and0, if_pos rfl, if_pos (by decide), if_pos rfl, cV12, r_wd hN1 okW_34 sw_34 hL hT he k1 hw hs.1, cS_l, if_pos (by decide), cV12, r_wd hN1 okW_35 sw_35 hL hT he k1 hw hs.1, cS_l, if_pos (by decide), cV12, r_wd hN1 okW_36 sw_36 hL hT he k1 hw hs.1, cS_l, if_neg (by decide), cV12]
theorem line_no (hN1 : 1000 ≤ N) (hL : L ≤ 700) (hT : ∀ j, j < L → T j < 256) (hp : plA p) (he : e ≤ L) (W : WX e X) (cI : ∀ s, CX T L p s e X → fX10_indexIn N 35 (1000000 + 2) (mk s) = some (.inl (-1), mk s)) (rI : ∀ s, RX T L s e X → (∀ i, 31 ≤ i → i ≤ 36 → fX12_is N 419 (1000000 + i) (mk s) = some (.inl 0, mk s)) ∧ fX12_wordOf N 419 420 (mk s) = some (.inl (-1), mk s)) : Ln T L p (fX2_readsLine N 34) (bX12_readLine_0 N 419 (nI (dn X.1))) (bX12_readLine_213 N 419 (nI (dn X.1)) 0) e X (sFl X) (.inl (1, e)) := by
  refine ⟨⟨by omega, by omega, he⟩, fun s hs => ?_, fun s hs => ?_⟩
  · obtain ⟨s', b1, b2, b3, b4⟩ := c_ref (N := N) hs.1 (f := 1) (x := 1) rfl
    refine ⟨s', ?_, b2, b3, Fr_m b4 (cE_F p)⟩
    unfold fX2_readsLine bX2_readsLine_0
    rw [gR34, ob_s, cV10, cI s hs, cS_l, if_neg (by decide), if_neg (by decide), if_neg (by decide), if_neg (by decide), if_neg (by decide), if_neg (by decide), if_neg (by decide), if_neg (by decide), if_neg (by decide), cV34, b1, cS_r]
  · obtain ⟨r1, r2⟩ := rI s hs
    obtain ⟨s', b1, b2, b3, b4⟩ := r_wr (N := N) hs.1 (f := 1) (x := 1) rfl
    refine ⟨s', ?_, b2, b3, Fr_m b4 rE_F⟩
    unfold bX12_readLine_0
    rw [cV12, r1 31 (by omega) (by omega), cS_l, if_pos rfl, cV12, r1 32 (by omega) (by omega), cS_l, if_pos rfl, cV12, r1 33 (by omega) (by omega), cS_l, if_pos rfl]
    unfold bX12_readLine_43 bX12_readLine_64
    rw [gR12 0 420 rfl rfl, ob_s, cV12, r2, cS_l, and0, if_pos rfl, if_pos (by decide), if_pos rfl, cV12, r1 34 (by omega) (by omega), cS_l, if_pos rfl, cV12, r1 35 (by omega) (by omega), cS_l, if_pos rfl, cV12, r1 36 (by omega) (by omega), cS_l, if_pos rfl, cV12, b1, cS_l]
theorem lnLine (hN1 : 1000 ≤ N) (hL : L ≤ 700) (hT : ∀ j, j < L → T j < 256) (hp : plA p) (he : e ≤ L) (W : WX e X) (hk : ¬ tkK T L e = 0) : ∃ (v2 : Int32) (o : (Nat × Nat) ⊕ (Nat × pX)), Ln T L p (fX2_readsLine N 34) (bX12_readLine_0 N 419 (nI (dn X.1))) (bX12_readLine_213 N 419 (nI (dn X.1)) v2) e X (fun X1 => nI (dn X.1) ||| v2 = nI (dn X1.1)) o := by
  have hfl : ∀ X1, sFl X X1 → nI (dn X.1) ||| 0 = nI (dn X1.1) := fun X1 h => by
    have e1 : dn X1.1 = dn X.1 := by
      show X1.1 (8 + 0) + 2 * X1.1 (8 + 1) + 4 * X1.1 (8 + 2) = _
      rw [h 0 (by omega), h 1 (by omega), h 2 (by omega)]
      rfl
    rw [or0, e1]
  have no : (∀ s, CX T L p s e X → fX10_indexIn N 35 (1000000 + 2) (mk s) = some (.inl (-1), mk s)) → (∀ s, RX T L s e X → (∀ i, 31 ≤ i → i ≤ 36 → fX12_is N 419 (1000000 + i) (mk s) = some (.inl 0, mk s)) ∧ fX12_wordOf N 419 420 (mk s) = some (.inl (-1), mk s)) → ∃ (v2 : Int32) (o : (Nat × Nat) ⊕ (Nat × pX)), Ln T L p (fX2_readsLine N 34) (bX12_readLine_0 N 419 (nI (dn X.1))) (bX12_readLine_213 N 419 (nI (dn X.1)) v2) e X (fun X1 => nI (dn X.1) ||| v2 = nI (dn X1.1)) o :=
    fun h1 h2 => ⟨0, _, Ln_eq hfl (fun s _ => rfl) (fun s _ => rfl) _ (line_no hN1 hL hT hp he W h1 h2)⟩
  have hE := tkE_le (T := T) he
  by_cases k1 : tkK T L e = 1
  · by_cases w0 : tW T L e = [115, 117, 110]
    · obtain ⟨o, ho⟩ := line_sun hN1 hL hT hp he W k1 w0
      exact ⟨0, o, Ln_eq hfl (fun s _ => rfl) (fun s _ => rfl) o ho⟩
    by_cases w1 : tW T L e = [99, 108, 111, 117, 100]
    · obtain ⟨o, ho⟩ := line_cloud hN1 hL hT hp he W k1 w1
      exact ⟨0, o, Ln_eq hfl (fun s _ => rfl) (fun s _ => rfl) o ho⟩
    by_cases w2 : tW T L e = [119, 105, 100, 101]
    · obtain ⟨o, ho⟩ := line_wide hN1 hL hT hp he W k1 w2
      exact ⟨0, o, Ln_eq hfl (fun s _ => rfl) (fun s _ => rfl) o ho⟩
    by_cases w3 : tW T L e = [110, 101, 97, 114]
    · obtain ⟨o, ho⟩ := line_near hN1 hL hT hp he W k1 w3
      exact ⟨0, o, Ln_eq hfl (fun s _ => rfl) (fun s _ => rfl) o ho⟩
    by_cases w4 : tW T L e = [105, 110, 115, 105, 100, 101]
    · obtain ⟨o, ho⟩ := line_inside hN1 hL hT hp he W k1 w4
      exact ⟨0, o, Ln_eq hfl (fun s _ => rfl) (fun s _ => rfl) o ho⟩
    by_cases w5 : tW T L e = [100, 97, 121]
    · obtain ⟨o, ho⟩ := line_day hN1 hL hT hp he W k1 w5
      exact ⟨1, o, ho⟩
    by_cases w6 : tW T L e = [109, 111, 118, 101]
    · obtain ⟨o, ho⟩ := line_move hN1 hL hT hp he W k1 w6
      exact ⟨2, o, ho⟩
    by_cases w7 : tW T L e = [99, 111, 108, 100]
    · obtain ⟨o, ho⟩ := line_cold hN1 hL hT hp he W k1 w7
      exact ⟨4, o, ho⟩
    by_cases w8 : tW T L e = [114, 117, 108, 101]
    · obtain ⟨o, ho⟩ := line_rule hN1 hL hT hp he W k1 w8
      exact ⟨0, o, Ln_eq hfl (fun s _ => rfl) (fun s _ => rfl) o ho⟩
    refine no (fun s hs => ?_) (fun s hs => ⟨fun i h1 h2 => ?_, ?_⟩)
    · rw [c_lw hN1 hL hT he k1 rfl hs.1]
      have : lk (tW T L e) lWs 0 = -1 := by
        unfold lWs
        rw [lk_s, if_neg w0, lk_s, if_neg w1, lk_s, if_neg w2, lk_s, if_neg w3, lk_s, if_neg w4, lk_s, if_neg w5, lk_s, if_neg w6, lk_s, if_neg w7, lk_s, if_neg w8]
        rfl
      rw [this]
    · obtain rfl | rfl | rfl | rfl | rfl | rfl : i = 31 ∨ i = 32 ∨ i = 33 ∨ i = 34 ∨ i = 35 ∨ i = 36 := by omega
      · rw [r_wd hN1 okW_31 sw_31 hL hT he k1 rfl hs.1, decide_eq_false w5]
        rfl
      · rw [r_wd hN1 okW_32 sw_32 hL hT he k1 rfl hs.1, decide_eq_false w6]
        rfl
      · rw [r_wd hN1 okW_33 sw_33 hL hT he k1 rfl hs.1, decide_eq_false w7]
        rfl
      · rw [r_wd hN1 okW_34 sw_34 hL hT he k1 rfl hs.1, decide_eq_false w0]
        rfl
      · rw [r_wd hN1 okW_35 sw_35 hL hT he k1 rfl hs.1, decide_eq_false w1]
        rfl
      · rw [r_wd hN1 okW_36 sw_36 hL hT he k1 rfl hs.1, decide_eq_false w8]
        rfl
    · rw [r_kd hN1 hL hT he k1 rfl hs.1]
      have : lk (tW T L e) kWs 0 = -1 := by
        unfold kWs
        rw [lk_s, if_neg w2, lk_s, if_neg w3, lk_s, if_neg w4]
        rfl
      rw [this]
  · have hisf : ∀ l, isW T L e l = false := fun l => decide_eq_false (fun z => k1 z.1)
    refine no (fun s hs => ?_) (fun s hs => ⟨fun i h1 h2 => ?_, ?_⟩)
    · rw [c_indexIn hN1 okW_2 hL hT hs.1.2.1 hs.1.2.2.1 tkK_4 hE.1 hE.2, if_neg k1]
    · obtain rfl | rfl | rfl | rfl | rfl | rfl : i = 31 ∨ i = 32 ∨ i = 33 ∨ i = 34 ∨ i = 35 ∨ i = 36 := by omega
      · rw [r_wrd hN1 okW_31 hL hT he hs.1, hisf]
        rfl
      · rw [r_wrd hN1 okW_32 hL hT he hs.1, hisf]
        rfl
      · rw [r_wrd hN1 okW_33 hL hT he hs.1, hisf]
        rfl
      · rw [r_wrd hN1 okW_34 hL hT he hs.1, hisf]
        rfl
      · rw [r_wrd hN1 okW_35 hL hT he hs.1, hisf]
        rfl
      · rw [r_wrd hN1 okW_36 hL hT he hs.1, hisf]
        rfl
    · rw [r_kinds hN1 hL hT hs.1.1 hs.1.2.1 tkK_4 hE.1 hE.2 hs.1.2.2.2.1, wof_n 20 _ k1]
end LDI
