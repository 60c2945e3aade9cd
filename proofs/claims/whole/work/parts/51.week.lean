/- needs: 50.which -/
/-! weeks of other skies, both sides -/
theorem b_32767 : ∀ i, i < 32 → bt 32767 i = decide (i < 15) := by decide +kernel
theorem low15 (x : Int32) : ∃ v, v < 32768 ∧ x &&& 32767 = nI v := by
  obtain ⟨w, hw⟩ : ∃ w, x = nI w := ⟨x.toBitVec.toNat, by
    show x = Int32.ofNat x.toBitVec.toNat
    apply Int32.toBitVec_inj.mp
    rw [Int32.toBitVec_ofNat']
    simp⟩
  refine ⟨w % 2 ^ 15, Nat.mod_lt _ (by decide), ?_⟩
  refine b_ext fun i hi => ?_
  rw [hw, b_and, bt_nI _ _ hi, b_32767 i hi, bt_nI _ _ hi, Nat.testBit_mod_two_pow]
  cases w.testBit i <;> simp
/-- what is drawn from a seed -/
def drv (z : Int32) : Nat := ((z >>> ((16 : Int32) &&& 31)) &&& 32767).toNatClampNeg
theorem drv_r (z : Int32) : (z >>> ((16 : Int32) &&& 31)) &&& 32767 = nI (drv z) ∧ drv z < 32768 := by
  obtain ⟨v, h1, h2⟩ := low15 (z >>> ((16 : Int32) &&& 31))
  unfold drv
  rw [h2, nI_clamp (by omega)]
  exact ⟨rfl, h1⟩
theorem drv_c (z : Int32) : (z.toUInt32 >>> ((16 : Int32).toUInt32 &&& Int32.toUInt32 31)).toInt32 &&& 32767 = nI (drv z) := by
  rw [← (drv_r z).1]
  refine b_ext fun i hi => ?_
  rw [b_and, b_and, b_32767 i hi]
  have e1 : bt ((z.toUInt32 >>> ((16 : Int32).toUInt32 &&& Int32.toUInt32 31)).toInt32) i = bt z (16 + i) := b_ushr 16 (by omega) z i
  have e2 : bt (z >>> ((16 : Int32) &&& 31)) i = if 16 + i < 32 then bt z (16 + i) else bt z 31 := b_sshr 16 (by omega) z hi
  rw [e1, e2]
  by_cases c : i < 15
  · rw [if_pos (by omega)]
  · simp [c]
def sd (z : Int32) : Int32 := z * 1103515245 + 12345
/-- the parts of a drawn sky -/
def wkl : Nat → Nat → Int32 → Nat → (Nat → Bool) → Int32 × (Nat → Bool)
  | 0, _, z, _, K => (z, K)
  | f + 1, p, z, m, K => wkl f (p + 1) (sd z) (m + drv (sd z) % 30 + 1) (if p % 2 = 1 then pnt K true m (m + drv (sd z) % 30 + 1) else K)
theorem wkl_s (f p : Nat) (z : Int32) (m : Nat) (K : Nat → Bool) : wkl (f + 1) p z m K = wkl f (p + 1) (sd z) (m + drv (sd z) % 30 + 1) (if p % 2 = 1 then pnt K true m (m + drv (sd z) % 30 + 1) else K) := rfl
def wkS (z : Int32) (m : Nat) (K : Nat → Bool) : Int32 × (Nat → Bool) := wkl (drv (sd z) % 16) 0 (sd z) m (pnt K false m 480)
section WK
variable {N : Nat} {s : sg} {P : pln} {st : Nat → Int32} {K : Nat → Bool} {n D mv k m nr p a w ns : Nat} {q : Nat → Int32} {b : Nat → Nat} {x : Int32}
theorem c_paintB {y u v : Nat} {on : Bool} (hN1 : 1000 ≤ N) (h : skO y) (hu : u < 2 ^ 31) (hv : v < 2 ^ 31) (hK : kSky s y K) : ∃ s' r, fX8_paint N y (nI u) (nI v) (sk_i on) (mk s) = some (.inl r, mk s') ∧ kSky s' y (pnt K on u (v + 1)) ∧ Fr (fun x _ => x = y + 1) s s' := by
  by_cases c : u ≤ 480
  · obtain ⟨s', a1, a2, a3⟩ := c_paint (N := N) (on := on) hN1 h c hv hK
    exact ⟨s', _, a1, a2, a3⟩
  · refine ⟨s, nI 0, ?_, fun m hm => ?_, Fr_r _ _⟩
    · obtain ⟨M, hM⟩ : ∃ M, N = M + 1 := ⟨N - 1, by omega⟩
      unfold fX8_paint bX8_paint_0
      rw [show (479 : Int32) = nI 479 from rfl, show (0 : Int32) = nI 0 from rfl, mn_nI hv (by omega), mx_nI hu (by omega), Nat.max_eq_left (by omega)]
      have el : lX8_paint_19 N N = lX8_paint_19 N (M + 1) := by rw [← hM]
      rw [el]
      show bX8_paint_19 N (lX8_paint_19 N M) y (sk_i on) (nI (min v 479)) (nI 0) (nI u) (mk s) = _
      unfold bX8_paint_19
      rw [if_pos (nI_lt (by omega) hu)]
      rfl
    · rw [hK m hm]
      unfold pnt
      rw [if_neg (by omega)]
theorem c_draw {c : mm_C} {l : Nat} (hl : 0 < l) (hl2 : l < 2 ^ 31) (z : Int32) : fX11_drawOf N z (nI l) c = some (.inl (nI (drv z % l)), c) := by
  have h := (drv_r z).2
  unfold fX11_drawOf bX11_drawOf_0
  rw [if_neg (show ¬ nI l ≤ 0 from fun g => by rw [i32_le, nI_toInt hl2] at g; have e0 : (0 : Int32).toInt = 0 := (by decide); omega), drv_c, rm_nI (by omega) hl2 hl]
  rfl
theorem odd_p : ∀ p, p < 16 → ((nI p &&& 1 = 1) ↔ p % 2 = 1) := by decide +kernel
theorem c_pbs31 (hN1 : 1000 ≤ N) {y : Nat} (h : skO y) {pp : Nat} (hpp : pp < 16) : ∀ (f i : Nat) (z : Int32) (m : Nat) (K : Nat → Bool) (s : sg), pp - i < f → i ≤ pp → m ≤ 480 + 30 * i → kSky s y K → ∃ s', lX11_paintsBySeed_31 N f y z (nI pp) (nI m) (nI i) (mk s) = some (.inl (wkl (pp - i) i z m K).1, mk s') ∧ kSky s' y (wkl (pp - i) i z m K).2 ∧ Fr (fun x _ => x = y + 1) s s' := by
  intro f
  induction f with
  | zero => intro i z m K s hf; omega
  | succ f ih =>
    intro i z m K s hf hi hm hK
    show ∃ s', bX11_paintsBySeed_31 N (lX11_paintsBySeed_31 N f) y z (nI pp) (nI m) (nI i) (mk s) = _ ∧ _
    unfold bX11_paintsBySeed_31 bX11_paintsBySeed_101
    by_cases c : pp ≤ i
    · rw [if_pos (nI_le c (by omega)), show pp - i = 0 by omega]
      exact ⟨s, rfl, hK, Fr_r _ _⟩
    · rw [if_neg (nI_ge (by omega) (by omega))]
      obtain ⟨g, hg, hg2⟩ := sub1 (show i < pp by omega)
      have hns : fX11_nextSeed N z (mk s) = some (.inl (sd z), mk s) := rfl
      have hdr : fX11_drawOf N (sd z) 30 (mk s) = some (.inl (nI (drv (sd z) % 30)), mk s) := c_draw (l := 30) (by omega) (by omega) (sd z)
      have hm30 := Nat.mod_lt (drv (sd z)) (show 0 < 30 by omega)
      rw [hns, cS_l, hdr, cS_l, nI_add, nI_1, hg, wkl_s]
      unfold bX11_paintsBySeed_72 bX11_paintsBySeed_91
      rw [nI_1]
      by_cases c2 : i % 2 = 1
      · rw [if_neg (fun g => g ((odd_p i (by omega)).mpr c2)), if_neg (by decide), if_pos c2, nI_pred]
        have hp1 := c_paintB (N := N) (u := m) (v := m + drv (sd z) % 30) (on := true) hN1 h (by omega) (by omega) hK
        obtain ⟨s1, r, a1, a2, a3⟩ := hp1
        simp (decide := true) only [ob_s, cS_l, cS_r, gI_k, gR_k, pI_k, pR_k, cV_k, aI_k, tI_k, rZ_0, rZ_1, rZ_i, h.1, show (1 : Int32) = sk_i true from rfl, a1]
        obtain ⟨s2, b1, b2, b3⟩ := ih (i + 1) (sd z) (m + drv (sd z) % 30 + 1) (pnt K true m (m + drv (sd z) % 30 + 1)) s1 (by omega) (by omega) (by omega) a2
        rw [hg2] at b1 b2
        exact ⟨s2, b1, b2, Fr_t a3 b3⟩
      · rw [if_pos (fun g => c2 ((odd_p i (by omega)).mp g)), if_pos rfl, if_neg c2]
        obtain ⟨s2, b1, b2, b3⟩ := ih (i + 1) (sd z) (m + drv (sd z) % 30 + 1) K s (by omega) (by omega) (by omega) hK
        rw [hg2] at b1 b2
        exact ⟨s2, b1, b2, b3⟩
theorem c_pbs (hN1 : 1000 ≤ N) {y : Nat} (h : skO y) (hm : m ≤ 480) (hK : kSky s y K) (z : Int32) : ∃ s', fX11_paintsBySeed N 0 y (nI m) z (mk s) = some (.inl (wkS z m K).1, mk s') ∧ kSky s' y (wkS z m K).2 ∧ Fr (fun x _ => x = y + 1) s s' := by
  have hns : fX11_nextSeed N z (mk s) = some (.inl (sd z), mk s) := rfl
  have hdr : fX11_drawOf N (sd z) 16 (mk s) = some (.inl (nI (drv (sd z) % 16)), mk s) := c_draw (l := 16) (by omega) (by omega) (sd z)
  have hm16 := Nat.mod_lt (drv (sd z)) (show 0 < 16 by omega)
  obtain ⟨s1, r, a1, a2, a3⟩ := c_paintB (N := N) (u := m) (v := 479) (on := false) hN1 h (by omega) (by omega) hK
  obtain ⟨s2, b1, b2, b3⟩ := c_pbs31 (N := N) hN1 h (pp := drv (sd z) % 16) (by omega) N 0 (sd z) m (pnt K false m 480) s1 (by omega) (by omega) (by omega) a2
  rw [show drv (sd z) % 16 - 0 = drv (sd z) % 16 by omega] at b1 b2
  refine ⟨s2, ?_, b2, Fr_t a3 b3⟩
  have a1' : fX8_paint N y (nI m) 479 0 (mk s) = some (.inl r, mk s1) := a1
  unfold fX11_paintsBySeed bX11_paintsBySeed_0
  simp (decide := true) only [ob_s, cS_l, cS_r, gI_k, gR_k, pI_k, pR_k, cV_k, aI_k, tI_k, rZ_0, rZ_1, rZ_i, hns, hdr, h.1, a1']
  exact b1
theorem SAt_sky {s' : sg} {K' : Nat → Bool} (h : SAt s a st K) (f : Fr (fun x _ => x = a + 3) s s') (hk : kSky s' (a + 2) K') : SAt s' a st K' := by
  obtain ⟨h0, h1, h2, h3, h4, h5, h6, h7, h8⟩ := h
  exact ⟨(f.1 _ _ (by omega)).trans h0, (f.1 _ _ (by omega)).trans h1, (f.1 _ _ (by omega)).trans h2, (f.1 _ _ (by omega)).trans h3, (f.1 _ _ (by omega)).trans h4, (f.1 _ _ (by omega)).trans h5, (f.1 _ _ (by omega)).trans h6, fun j hj => (f.1 _ _ (by omega)).trans (h7 j hj), hk⟩
/-- a week: shots, the fewest, film -/
def wkf (P : pln) (n D mv : Nat) (q : Nat → Int32) (b : Nat → Nat) (x : Int32) (st : Nat → Int32) : Nat → Int32 → (Nat → Bool) → Int32 × Int32 × Int32 → Int32 × Int32 × Int32
  | 0, _, _, t => t
  | f + 1, z, K, t => wkf P n D mv q b x st f (wkS z (nowN st) K).1 (wkS z (nowN st) K).2 (t.1 + nI (dNo P (wkS z (nowN st) K).2 n D mv q b x st), mnI t.2.1 (nI (dNo P (wkS z (nowN st) K).2 n D mv q b x st)), t.2.2 + dFm P (wkS z (nowN st) K).2 n D mv q b x st)
theorem wkf_s (f : Nat) (z : Int32) (K : Nat → Bool) (t : Int32 × Int32 × Int32) : wkf P n D mv q b x st (f + 1) z K t = wkf P n D mv q b x st f (wkS z (nowN st) K).1 (wkS z (nowN st) K).2 (t.1 + nI (dNo P (wkS z (nowN st) K).2 n D mv q b x st), mnI t.2.1 (nI (dNo P (wkS z (nowN st) K).2 n D mv q b x st)), t.2.2 + dFm P (wkS z (nowN st) K).2 n D mv q b x st) := rfl
def pk3 (w : Nat) (t : Int32 × Int32 × Int32) : Int32 := if w = 0 then t.1 else if w = 1 then t.2.1 else t.2.2
def aWeek (P : pln) (K : Nat → Bool) (n D mv : Nat) (q : Nat → Int32) (b : Nat → Nat) (x : Int32) (st : Nat → Int32) (z : Int32) (k w : Nat) : Int32 := pk3 w (wkf P n D mv q b x st k z K (0, if k = 0 then 0 else 8, 0))
theorem c_week70 (hN1 : 1000 ≤ N) (W : Wp P n D mv) (Z : Ws st n D) (R : Wr nr q b) (hx : isRl nr x) (hw : w ≤ 2) (hk : k ≤ 10) : ∀ (f i : Nat) (z : Int32) (K' : Nat → Bool) (t : Int32 × Int32 × Int32) (s : sg), k - i < f → i ≤ k → CR2 s p P n D mv nr q b st K → SAt s 377 st K' → ∃ s', lX11_week_70 N f 0 x (nI k) (nI w) t.1 t.2.1 t.2.2 z (nI i) (mk s) = some (.inl (pk3 w (wkf P n D mv q b x st (k - i) z K' t)), mk s') ∧ Fr cQ s s' := by
  have hn8 := W.1
  have hp8 := pn8 hn8
  have hD := W.2.2.2.1
  obtain ⟨⟨h0, h0'⟩, _⟩ := Ws_n Z W.1 W.2.2.2.1
  intro f
  induction f with
  | zero => intro i z K' t s hf; omega
  | succ f ih =>
    intro i z K' t s hf hi h hs
    show ∃ s', bX11_week_70 N (lX11_week_70 N f) 0 x (nI k) (nI w) t.1 t.2.1 t.2.2 z (nI i) (mk s) = _ ∧ _
    unfold bX11_week_70
    by_cases c : k ≤ i
    · rw [if_pos (nI_le c (by omega)), show k - i = 0 by omega]
      unfold bX11_week_160
      refine ⟨s, ?_, Fr_r _ _⟩
      show _ = some (Sum.inl (pk3 w t), mk s)
      unfold pk3
      rcases (show w = 0 ∨ w = 1 ∨ w = 2 by omega) with rfl | rfl | rfl <;> simp (decide := true)
    · rw [if_neg (nI_ge (by omega) (by omega))]
      obtain ⟨g, hg, hg2⟩ := sub1 (show i < k by omega)
      have e0 : s.1 377 0 = nI (nowN st) := hs.1.trans h0
      have sO : skO 379 := ⟨rfl, rfl, rfl⟩
      obtain ⟨s1, a1, a2, a3⟩ := c_pbs (N := N) (y := 379) hN1 sO (show nowN st ≤ 480 by omega) hs.2.2.2.2.2.2.2.2 z
      have fa : Fr cQ s s1 := Fr_m a3 (fun y j g => by unfold cQ; omega)
      have h1 := CR2_fr h hn8 fa
      have hs1 : SAt s1 377 st (wkS z (nowN st) K').2 := SAt_sky hs a3 a2
      obtain ⟨s2, b1, b2, b3⟩ := c_runs (N := N) (a := 377) hN1 W Z R h1.1.1 (Or.inr rfl) hx h1.1.2.2.1 h1.2 hs1
      have fb : Fr cQ s1 s2 := Fr_m b3 (fun y j => dQ_cQ h1.1.1)
      have h2 := CR2_fr h1 hn8 fb
      have hp2 := plA_le h.1.1
      have hs2 := SAt_fr hs1 b3 (fun y j g1 g2 g => by unfold dQ at g; omega)
      obtain ⟨d1, d2⟩ := dBy_hd (K := (wkS z (nowN st) K').2) (q := q) (b := b) (x := x) W Z
      have e1 : s2.1 384 0 = nI (hdN (dBy P (wkS z (nowN st) K').2 n D mv q b x st)) := b2.1.trans d1
      simp (decide := true) only [ob_s, cS_l, cS_r, gI_k, gR_k, pI_k, pR_k, cV_k, aI_k, tI_k, rZ_0, rZ_1, rZ_i, aR_24, aR_25, aZ_k, tZ_k, rf_3_6, rf_3_7, rf_3_8, rf_5_0, rf_5_1, rf_5_3, rf_5_4, rf_5_5, rf_5_7, rf_6_4, rf_6_11, rf_1_0, rf_1_1, rf_0_6, rf_9_7, rf_9_8, rf_8_0, rf_11_0, rf_11_5, rf_11_6, rf_11_7, rf_11_9, rf_11_10, rf_11_11, rf_11_12, rf_11_3, rf_11_4, Nat.reduceAdd, Nat.zero_add, kc_0, kc_1, kc_34, kc_35, kc_36, kc_37, kc_38, kc_39, kc_40, kc_41, kc_42, kc_43, kc_44, kc_45, kc_46, kc_207, kc_208, kc_209, kc_210, kc_211, kc_212, kc_213, kc_214, kc_215, kc_216, kc_377, kc_378, kc_379, kc_380, kc_381, kc_382, kc_383, kc_384, kc_385, kc_386, kc_387, kc_388, kc_389, kc_390, kc_391, kc_392, kc_393, kc_394, kc_395, kc_414, kc_415, kc_416, kc_417, kc_418, kn_1, kn_36, kn_39, kn_41, kn_42, kn_43, kn_44, kn_45, kn_46, kn_209, kn_211, kn_212, kn_213, kn_214, kn_215, kn_216, kn_378, kn_380, kn_382, kn_383, kn_385, kn_386, kn_388, kn_390, kn_392, kn_393, kn_395, kn_414, kn_415, kn_417, kn_418, e0, a1, h1.1.2.1, b1, e1, j_bits _ (show hdN (dBy P (wkS z (nowN st) K').2 n D mv q b x st) < 256 by omega), b2.2.2.1, nI_1]
      rw [hg, wkf_s]
      obtain ⟨s3, g1, g2⟩ := ih (i + 1) (wkS z (nowN st) K').1 (wkS z (nowN st) K').2 (t.1 + nI (dNo P (wkS z (nowN st) K').2 n D mv q b x st), mnI t.2.1 (nI (dNo P (wkS z (nowN st) K').2 n D mv q b x st)), t.2.2 + dFm P (wkS z (nowN st) K').2 n D mv q b x st) s2 (by omega) (by omega) h2 hs2
      rw [hg2] at g1
      exact ⟨s3, g1, Fr_t (Fr_t fa fb) g2⟩
theorem c_week (hN1 : 1000 ≤ N) (W : Wp P n D mv) (Z : Ws st n D) (R : Wr nr q b) (hx : isRl nr x) (hw : w ≤ 2) (hk : k ≤ 10) (h : CR2 s p P n D mv nr q b st K) (z : Int32) : ∃ s', fX11_week N 0 x z (nI k) (nI w) (mk s) = some (.inl (aWeek P K n D mv q b x st z k w), mk s') ∧ Fr cQ s s' := by
  have hn8 := W.1
  obtain ⟨s1, a1, a2, a3⟩ := c_stCopy (N := N) (a := 377) (b := 38) (stA_O (Or.inr (Or.inl rfl))) (stA_O (Or.inl rfl)) (by omega) h.1.2.2.2 Z.2.2.2
  have fa : Fr cQ s s1 := Fr_m a3 (fun y j g => by unfold stD at g; unfold cQ; omega)
  have h1 := CR2_fr h hn8 fa
  have hq := c_reqWhat (N := N) (s := s) (l := 2) hw (by omega)
  rw [show nI 2 = (2 : Int32) from rfl] at hq
  obtain ⟨s2, b1, b2⟩ := c_week70 (N := N) (K := K) (w := w) (k := k) hN1 W Z R hx hw hk N 0 z K (0, if k = 0 then 0 else 8, 0) s1 (by omega) (by omega) h1 a2
  rw [show k - 0 = k by omega] at b1
  refine ⟨s2, ?_, Fr_t fa b2⟩
  unfold fX11_week bX11_week_0
  simp (decide := true) only [ob_s, cS_l, cS_r, gI_k, gR_k, pI_k, pR_k, cV_k, aI_k, tI_k, rZ_0, rZ_1, rZ_i, aR_24, aR_25, aZ_k, tZ_k, rf_3_6, rf_3_7, rf_3_8, rf_5_0, rf_5_1, rf_5_3, rf_5_4, rf_5_5, rf_5_7, rf_6_4, rf_6_11, rf_1_0, rf_1_1, rf_0_6, rf_9_7, rf_9_8, rf_8_0, rf_11_0, rf_11_5, rf_11_6, rf_11_7, rf_11_9, rf_11_10, rf_11_11, rf_11_12, rf_11_3, rf_11_4, Nat.reduceAdd, Nat.zero_add, kc_0, kc_1, kc_34, kc_35, kc_36, kc_37, kc_38, kc_39, kc_40, kc_41, kc_42, kc_43, kc_44, kc_45, kc_46, kc_207, kc_208, kc_209, kc_210, kc_211, kc_212, kc_213, kc_214, kc_215, kc_216, kc_377, kc_378, kc_379, kc_380, kc_381, kc_382, kc_383, kc_384, kc_385, kc_386, kc_387, kc_388, kc_389, kc_390, kc_391, kc_392, kc_393, kc_394, kc_395, kc_414, kc_415, kc_416, kc_417, kc_418, kn_1, kn_36, kn_39, kn_41, kn_42, kn_43, kn_44, kn_45, kn_46, kn_209, kn_211, kn_212, kn_213, kn_214, kn_215, kn_216, kn_378, kn_380, kn_382, kn_383, kn_385, kn_386, kn_388, kn_390, kn_392, kn_393, kn_395, kn_414, kn_415, kn_417, kn_418, c_reqRule R h hx, hq]
  rw [if_neg (nI_pos (by omega)), if_pos (show nI k ≤ 10 from nI_le (b := 10) hk (by omega))]
  unfold bX11_week_45
  simp (decide := true) only [ob_s, cS_l, cS_r, gI_k, gR_k, pI_k, pR_k, cV_k, aI_k, tI_k, rZ_0, rZ_1, rZ_i, aR_24, aR_25, aZ_k, tZ_k, rf_3_6, rf_3_7, rf_3_8, rf_5_0, rf_5_1, rf_5_3, rf_5_4, rf_5_5, rf_5_7, rf_6_4, rf_6_11, rf_1_0, rf_1_1, rf_0_6, rf_9_7, rf_9_8, rf_8_0, rf_11_0, rf_11_5, rf_11_6, rf_11_7, rf_11_9, rf_11_10, rf_11_11, rf_11_12, rf_11_3, rf_11_4, Nat.reduceAdd, Nat.zero_add, kc_0, kc_1, kc_34, kc_35, kc_36, kc_37, kc_38, kc_39, kc_40, kc_41, kc_42, kc_43, kc_44, kc_45, kc_46, kc_207, kc_208, kc_209, kc_210, kc_211, kc_212, kc_213, kc_214, kc_215, kc_216, kc_377, kc_378, kc_379, kc_380, kc_381, kc_382, kc_383, kc_384, kc_385, kc_386, kc_387, kc_388, kc_389, kc_390, kc_391, kc_392, kc_393, kc_394, kc_395, kc_414, kc_415, kc_416, kc_417, kc_418, kn_1, kn_36, kn_39, kn_41, kn_42, kn_43, kn_44, kn_45, kn_46, kn_209, kn_211, kn_212, kn_213, kn_214, kn_215, kn_216, kn_378, kn_380, kn_382, kn_383, kn_385, kn_386, kn_388, kn_390, kn_392, kn_393, kn_395, kn_414, kn_415, kn_417, kn_418, a1]
  unfold aWeek
  by_cases c : k = 0
  · subst c
    rw [if_neg (fun g => g rfl)]
    exact b1
  · rw [if_pos (nI_ne0 (by omega) (by omega))]
    rw [if_neg c] at b1 ⊢
    exact b1
theorem c_week' {y v z : Int32} (R : Wr nr q b) (h : CR2 s p P n D mv nr q b st K) (hxy : ¬ isRl nr x ∨ isRl nr x ∧ (v < 0 ∨ (¬ v < 0 ∧ nI 3 ≤ v))) : fX11_week N 0 x z y v (mk s) = some (.inr 1, mk s) := by
  unfold fX11_week bX11_week_0
  rcases hxy with hx | ⟨hx, hy⟩
  · simp (decide := true) only [ob_s, cS_l, cS_r, gI_k, gR_k, pI_k, pR_k, cV_k, aI_k, tI_k, rZ_0, rZ_1, rZ_i, aR_24, aR_25, aZ_k, tZ_k, rf_3_6, rf_3_7, rf_3_8, rf_5_0, rf_5_1, rf_5_3, rf_5_4, rf_5_5, rf_5_7, rf_6_4, rf_6_11, rf_1_0, rf_1_1, rf_0_6, rf_9_7, rf_9_8, rf_8_0, rf_11_0, rf_11_5, rf_11_6, rf_11_7, rf_11_9, rf_11_10, rf_11_11, rf_11_12, rf_11_3, rf_11_4, Nat.reduceAdd, Nat.zero_add, kc_0, kc_1, kc_34, kc_35, kc_36, kc_37, kc_38, kc_39, kc_40, kc_41, kc_42, kc_43, kc_44, kc_45, kc_46, kc_207, kc_208, kc_209, kc_210, kc_211, kc_212, kc_213, kc_214, kc_215, kc_216, kc_377, kc_378, kc_379, kc_380, kc_381, kc_382, kc_383, kc_384, kc_385, kc_386, kc_387, kc_388, kc_389, kc_390, kc_391, kc_392, kc_393, kc_394, kc_395, kc_414, kc_415, kc_416, kc_417, kc_418, kn_1, kn_36, kn_39, kn_41, kn_42, kn_43, kn_44, kn_45, kn_46, kn_209, kn_211, kn_212, kn_213, kn_214, kn_215, kn_216, kn_378, kn_380, kn_382, kn_383, kn_385, kn_386, kn_388, kn_390, kn_392, kn_393, kn_395, kn_414, kn_415, kn_417, kn_418, c_reqRule' R h hx]
  · have hq := c_reqWhat' (N := N) (s := s) (l := 2) hy (by omega)
    rw [show nI 2 = (2 : Int32) from rfl] at hq
    simp (decide := true) only [ob_s, cS_l, cS_r, gI_k, gR_k, pI_k, pR_k, cV_k, aI_k, tI_k, rZ_0, rZ_1, rZ_i, aR_24, aR_25, aZ_k, tZ_k, rf_3_6, rf_3_7, rf_3_8, rf_5_0, rf_5_1, rf_5_3, rf_5_4, rf_5_5, rf_5_7, rf_6_4, rf_6_11, rf_1_0, rf_1_1, rf_0_6, rf_9_7, rf_9_8, rf_8_0, rf_11_0, rf_11_5, rf_11_6, rf_11_7, rf_11_9, rf_11_10, rf_11_11, rf_11_12, rf_11_3, rf_11_4, Nat.reduceAdd, Nat.zero_add, kc_0, kc_1, kc_34, kc_35, kc_36, kc_37, kc_38, kc_39, kc_40, kc_41, kc_42, kc_43, kc_44, kc_45, kc_46, kc_207, kc_208, kc_209, kc_210, kc_211, kc_212, kc_213, kc_214, kc_215, kc_216, kc_377, kc_378, kc_379, kc_380, kc_381, kc_382, kc_383, kc_384, kc_385, kc_386, kc_387, kc_388, kc_389, kc_390, kc_391, kc_392, kc_393, kc_394, kc_395, kc_414, kc_415, kc_416, kc_417, kc_418, kn_1, kn_36, kn_39, kn_41, kn_42, kn_43, kn_44, kn_45, kn_46, kn_209, kn_211, kn_212, kn_213, kn_214, kn_215, kn_216, kn_378, kn_380, kn_382, kn_383, kn_385, kn_386, kn_388, kn_390, kn_392, kn_393, kn_395, kn_414, kn_415, kn_417, kn_418, c_reqRule R h hx, hq]
theorem c_week2 {y z : Int32} (R : Wr nr q b) (h : CR2 s p P n D mv nr q b st K) (hx : isRl nr x) (hw : w ≤ 2) (hy : ¬ (0 ≤ y ∧ y ≤ nI 10)) : fX11_week N 0 x z y (nI w) (mk s) = some (.inr 0, mk s) := by
  have hq := c_reqWhat (N := N) (s := s) (l := 2) hw (by omega)
  rw [show nI 2 = (2 : Int32) from rfl] at hq
  unfold fX11_week bX11_week_0 bX11_week_21
  simp (decide := true) only [ob_s, cS_l, cS_r, gI_k, gR_k, pI_k, pR_k, cV_k, aI_k, tI_k, rZ_0, rZ_1, rZ_i, aR_24, aR_25, aZ_k, tZ_k, rf_3_6, rf_3_7, rf_3_8, rf_5_0, rf_5_1, rf_5_3, rf_5_4, rf_5_5, rf_5_7, rf_6_4, rf_6_11, rf_1_0, rf_1_1, rf_0_6, rf_9_7, rf_9_8, rf_8_0, rf_11_0, rf_11_5, rf_11_6, rf_11_7, rf_11_9, rf_11_10, rf_11_11, rf_11_12, rf_11_3, rf_11_4, Nat.reduceAdd, Nat.zero_add, kc_0, kc_1, kc_34, kc_35, kc_36, kc_37, kc_38, kc_39, kc_40, kc_41, kc_42, kc_43, kc_44, kc_45, kc_46, kc_207, kc_208, kc_209, kc_210, kc_211, kc_212, kc_213, kc_214, kc_215, kc_216, kc_377, kc_378, kc_379, kc_380, kc_381, kc_382, kc_383, kc_384, kc_385, kc_386, kc_387, kc_388, kc_389, kc_390, kc_391, kc_392, kc_393, kc_394, kc_395, kc_414, kc_415, kc_416, kc_417, kc_418, kn_1, kn_36, kn_39, kn_41, kn_42, kn_43, kn_44, kn_45, kn_46, kn_209, kn_211, kn_212, kn_213, kn_214, kn_215, kn_216, kn_378, kn_380, kn_382, kn_383, kn_385, kn_386, kn_388, kn_390, kn_392, kn_393, kn_395, kn_414, kn_415, kn_417, kn_418, c_reqRule R h hx, hq]
  by_cases c : y < 0
  · rw [if_pos c]
  · rw [if_neg c, if_neg (show ¬ y ≤ (10 : Int32) from fun g => hy ⟨Int32.not_lt.mp c, g⟩)]
/-! the reference -/
theorem m_draw {l : Nat} (hl : 0 < l) (hl2 : l < 2 ^ 31) : fX12_drawOf N 419 (nI l) (mk s) = some (.inl (nI (drv (sd (s.1 419 50)) % l)), mk (sI s 419 50 (sd (s.1 419 50)))) := by
  have h := (drv_r (sd (s.1 419 50))).2
  unfold fX12_drawOf bX12_drawOf_0
  simp (decide := true) only [ob_s, cS_l, cS_r, gI_k, gR_k, pI_k, pR_k, cV_k, aI_k, tI_k, rZ_0, rZ_1, rZ_i, rf_12_0, rf_12_1, rf_12_3, rf_12_4, rf_12_5, rf_12_6, rf_12_7, rf_12_8, rf_12_9, rf_12_10, rf_12_11, rf_12_12, rf_12_13, rf_12_14, rf_12_15, rf_12_26, rf_12_27, rf_12_31, rf_12_32, rf_12_33, rf_12_34, rf_12_41, rf_12_44, rf_12_47, rf_12_48, rf_12_49, rf_12_51, rf_12_55, rf_12_56, rf_12_57, rf_12_58, rf_12_59, rf_12_60, Nat.reduceAdd, kc_419, kc_420, kc_421, kc_422, kc_423, kc_424, kc_425, kc_426, kc_427, kc_428, kc_429, kc_430, kc_431, kc_432, kc_433, kc_434, kc_435, kc_436, kc_437, kc_438, kc_439, kc_440, kc_441, kc_442, kc_443, kc_444, kc_445, kc_446, kc_447, kc_448, kc_449, kc_450, kc_451, kc_452, kc_453, kn_420, kn_421, kn_422, kn_423, kn_424, kn_425, kn_426, kn_427, kn_428, kn_429, kn_430, kn_431, kn_432, kn_433, kn_434, kn_435, kn_436, kn_437, kn_438, kn_439, kn_440, kn_441, kn_442, kn_443, kn_444, kn_445, kn_446, kn_447, kn_448, kn_449, kn_450, kn_451, kn_452, kn_453, sI_c, and_self, if_true]
  have e : s.1 419 50 * 1103515245 + 12345 = sd (s.1 419 50) := rfl
  rw [e, (drv_r _).1, rm_nI (by omega) hl2 hl]
  rfl
theorem r_ds34 {k16 : Nat → Int32 → Int32 → Int32 → mm_C → mR Unit} {pp i nn m0 : Nat} {K' : Nat → Bool} (hi : i < 16) (hnn : nn ≤ 31) : ∀ (f j m : Nat) (s : sg), nn - j < f → j ≤ nn → m = min (m0 + j) 480 → m0 ≤ 2000 → (∀ y, y < m → s.1 429 y = sk_i (K' y)) → (∀ y, m0 ≤ y → y < min (m0 + nn) 480 → K' y = decide (i % 2 = 1)) → ∃ s', lX12_drawSky_34 N k16 f 419 (nI pp) (nI m) (nI i) (nI nn) (nI j) (mk s) = k16 419 (nI pp) (nI (min (m0 + nn) 480)) (nI (i + 1)) (mk s') ∧ (∀ y, y < min (m0 + nn) 480 → s'.1 429 y = sk_i (K' y)) ∧ Fr (fun x _ => x = 429) s s' := by
  intro f
  induction f with
  | zero => intro j m s hf; omega
  | succ f ih =>
    intro j m s hf hj hm hm0 hR hK
    show ∃ s', bX12_drawSky_34 N k16 (lX12_drawSky_34 N k16 f) 419 (nI pp) (nI m) (nI i) (nI nn) (nI j) (mk s) = _ ∧ _
    unfold bX12_drawSky_34 bX12_drawSky_66
    rw [nI_1]
    by_cases c : nn ≤ j
    · rw [if_pos (nI_le c (by omega))]
      have e : m = min (m0 + nn) 480 := by omega
      rw [← e]
      exact ⟨s, rfl, hR, Fr_r _ _⟩
    · rw [if_neg (nI_ge (by omega) (by omega))]
      by_cases c2 : 480 ≤ m
      · rw [if_pos (show (480 : Int32) ≤ nI m from nI_le (a := 480) c2 (by omega))]
        have e : m = min (m0 + nn) 480 := by omega
        rw [← e]
        exact ⟨s, rfl, hR, Fr_r _ _⟩
      · rw [if_neg (show ¬ (480 : Int32) ≤ nI m from nI_ge (b := 480) (by omega) (by omega))]
        have im : inB (nI m) 960 = true := inA_nI (by omega) (by omega)
        have hr : rmI (nI i) 2 = some (nI (i % 2)) := rm_nI (b := 2) (by omega) (by omega) (by omega)
        simp (decide := true) only [ob_s, cS_l, cS_r, gI_k, gR_k, pI_k, pR_k, cV_k, aI_k, tI_k, rZ_0, rZ_1, rZ_i, rf_12_0, rf_12_1, rf_12_3, rf_12_4, rf_12_5, rf_12_6, rf_12_7, rf_12_8, rf_12_9, rf_12_10, rf_12_11, rf_12_12, rf_12_13, rf_12_14, rf_12_15, rf_12_26, rf_12_27, rf_12_31, rf_12_32, rf_12_33, rf_12_34, rf_12_41, rf_12_44, rf_12_47, rf_12_48, rf_12_49, rf_12_51, rf_12_55, rf_12_56, rf_12_57, rf_12_58, rf_12_59, rf_12_60, Nat.reduceAdd, kc_419, kc_420, kc_421, kc_422, kc_423, kc_424, kc_425, kc_426, kc_427, kc_428, kc_429, kc_430, kc_431, kc_432, kc_433, kc_434, kc_435, kc_436, kc_437, kc_438, kc_439, kc_440, kc_441, kc_442, kc_443, kc_444, kc_445, kc_446, kc_447, kc_448, kc_449, kc_450, kc_451, kc_452, kc_453, kn_420, kn_421, kn_422, kn_423, kn_424, kn_425, kn_426, kn_427, kn_428, kn_429, kn_430, kn_431, kn_432, kn_433, kn_434, kn_435, kn_436, kn_437, kn_438, kn_439, kn_440, kn_441, kn_442, kn_443, kn_444, kn_445, kn_446, kn_447, kn_448, kn_449, kn_450, kn_451, kn_452, kn_453, hr, im, nI_clamp (show m < 2 ^ 31 by omega), nI_1]
        have f1 : Fr (fun x _ => x = 429) s (sI s 429 m (nI (i % 2))) := Fr_sI rfl
        obtain ⟨s', b1, b2, b3⟩ := ih (j + 1) (m + 1) (sI s 429 m (nI (i % 2))) (by omega) (by omega) (by omega) hm0 (fun y hy => by
          rw [sI_1]
          by_cases e : y = m
          · rw [if_pos ⟨rfl, e⟩, e, hK m (by omega) (by omega)]
            rcases (show i % 2 = 0 ∨ i % 2 = 1 by omega) with g | g <;> rw [g] <;> rfl
          · rw [if_neg (fun g => e g.2)]; exact hR y (by omega)) hK
        exact ⟨s', b1, b2, Fr_t f1 b3⟩
theorem r_ds72 {K' : Nat → Bool} : ∀ (f m : Nat) (s : sg), 480 - m < f → m ≤ 480 → (∀ y, y < m → s.1 429 y = sk_i (K' y)) → (∀ y, m ≤ y → y < 480 → K' y = false) → ∃ s', lX12_drawSky_72 N f 419 (nI m) (mk s) = some (.inl (), mk s') ∧ mSky s' K' ∧ Fr (fun x _ => x = 429) s s' := by
  intro f
  induction f with
  | zero => intro m s hf; omega
  | succ f ih =>
    intro m s hf hm hR hK
    show ∃ s', bX12_drawSky_72 N (lX12_drawSky_72 N f) 419 (nI m) (mk s) = _ ∧ _
    unfold bX12_drawSky_72
    by_cases c2 : 480 ≤ m
    · rw [if_pos (show (480 : Int32) ≤ nI m from nI_le (a := 480) c2 (by omega))]
      exact ⟨s, rfl, fun y hy => hR y (by omega), Fr_r _ _⟩
    · rw [if_neg (show ¬ (480 : Int32) ≤ nI m from nI_ge (b := 480) (by omega) (by omega))]
      have im : inB (nI m) 960 = true := inA_nI (by omega) (by omega)
      simp (decide := true) only [ob_s, cS_l, cS_r, gI_k, gR_k, pI_k, pR_k, cV_k, aI_k, tI_k, rZ_0, rZ_1, rZ_i, rf_12_0, rf_12_1, rf_12_3, rf_12_4, rf_12_5, rf_12_6, rf_12_7, rf_12_8, rf_12_9, rf_12_10, rf_12_11, rf_12_12, rf_12_13, rf_12_14, rf_12_15, rf_12_26, rf_12_27, rf_12_31, rf_12_32, rf_12_33, rf_12_34, rf_12_41, rf_12_44, rf_12_47, rf_12_48, rf_12_49, rf_12_51, rf_12_55, rf_12_56, rf_12_57, rf_12_58, rf_12_59, rf_12_60, Nat.reduceAdd, kc_419, kc_420, kc_421, kc_422, kc_423, kc_424, kc_425, kc_426, kc_427, kc_428, kc_429, kc_430, kc_431, kc_432, kc_433, kc_434, kc_435, kc_436, kc_437, kc_438, kc_439, kc_440, kc_441, kc_442, kc_443, kc_444, kc_445, kc_446, kc_447, kc_448, kc_449, kc_450, kc_451, kc_452, kc_453, kn_420, kn_421, kn_422, kn_423, kn_424, kn_425, kn_426, kn_427, kn_428, kn_429, kn_430, kn_431, kn_432, kn_433, kn_434, kn_435, kn_436, kn_437, kn_438, kn_439, kn_440, kn_441, kn_442, kn_443, kn_444, kn_445, kn_446, kn_447, kn_448, kn_449, kn_450, kn_451, kn_452, kn_453, im, nI_clamp (show m < 2 ^ 31 by omega), nI_1]
      have f1 : Fr (fun x _ => x = 429) s (sI s 429 m 0) := Fr_sI rfl
      obtain ⟨s', b1, b2, b3⟩ := ih (m + 1) (sI s 429 m 0) (by omega) (by omega) (fun y hy => by
        rw [sI_1]
        by_cases e : y = m
        · rw [if_pos ⟨rfl, e⟩, e, hK m (by omega) (by omega)]; rfl
        · rw [if_neg (fun g => e g.2)]; exact hR y (by omega)) (fun y h1 h2 => hK y (by omega) h2)
      exact ⟨s', b1, b2, Fr_t f1 b3⟩
theorem r_ds16 (hN1 : 1000 ≤ N) {pp : Nat} (hpp : pp < 16) : ∀ (f i m0 : Nat) (K' : Nat → Bool) (s : sg), pp - i < f → i ≤ pp → m0 ≤ 480 + 30 * i → (∀ y, y < min m0 480 → s.1 429 y = sk_i (K' y)) → (∀ y, m0 ≤ y → y < 480 → K' y = false) → ∃ s', lX12_drawSky_16 N f 419 (nI pp) (nI (min m0 480)) (nI i) (mk s) = some (.inl (), mk s') ∧ s'.1 419 50 = (wkl (pp - i) i (s.1 419 50) m0 K').1 ∧ mSky s' (wkl (pp - i) i (s.1 419 50) m0 K').2 ∧ Fr (fun x j => x = 429 ∨ (x = 419 ∧ j = 50)) s s' := by
  intro f
  induction f with
  | zero => intro i m0 K' s hf; omega
  | succ f ih =>
    intro i m0 K' s hf hi hm0 hR hK
    show ∃ s', bX12_drawSky_16 N (lX12_drawSky_16 N f) 419 (nI pp) (nI (min m0 480)) (nI i) (mk s) = _ ∧ _
    unfold bX12_drawSky_16
    by_cases c : pp ≤ i
    · rw [if_pos (nI_le c (by omega)), show pp - i = 0 by omega]
      obtain ⟨s', b1, b2, b3⟩ := r_ds72 (N := N) (K' := K') N (min m0 480) s (by omega) (by omega) hR (fun y h1 h2 => hK y (by omega) h2)
      exact ⟨s', b1, b3.1 _ _ (by omega), b2, Fr_m b3 (by intros; omega)⟩
    · rw [if_neg (nI_ge (by omega) (by omega))]
      obtain ⟨g, hg, hg2⟩ := sub1 (show i < pp by omega)
      have hdr : fX12_drawOf N 419 30 (mk s) = some (.inl (nI (drv (sd (s.1 419 50)) % 30)), mk (sI s 419 50 (sd (s.1 419 50)))) := m_draw (l := 30) (by omega) (by omega)
      have hm30 := Nat.mod_lt (drv (sd (s.1 419 50))) (show 0 < 30 by omega)
      simp (decide := true) only [ob_s, cS_l, cS_r, gI_k, gR_k, pI_k, pR_k, cV_k, aI_k, tI_k, rZ_0, rZ_1, rZ_i, rf_12_0, rf_12_1, rf_12_3, rf_12_4, rf_12_5, rf_12_6, rf_12_7, rf_12_8, rf_12_9, rf_12_10, rf_12_11, rf_12_12, rf_12_13, rf_12_14, rf_12_15, rf_12_26, rf_12_27, rf_12_31, rf_12_32, rf_12_33, rf_12_34, rf_12_41, rf_12_44, rf_12_47, rf_12_48, rf_12_49, rf_12_51, rf_12_55, rf_12_56, rf_12_57, rf_12_58, rf_12_59, rf_12_60, Nat.reduceAdd, kc_419, kc_420, kc_421, kc_422, kc_423, kc_424, kc_425, kc_426, kc_427, kc_428, kc_429, kc_430, kc_431, kc_432, kc_433, kc_434, kc_435, kc_436, kc_437, kc_438, kc_439, kc_440, kc_441, kc_442, kc_443, kc_444, kc_445, kc_446, kc_447, kc_448, kc_449, kc_450, kc_451, kc_452, kc_453, kn_420, kn_421, kn_422, kn_423, kn_424, kn_425, kn_426, kn_427, kn_428, kn_429, kn_430, kn_431, kn_432, kn_433, kn_434, kn_435, kn_436, kn_437, kn_438, kn_439, kn_440, kn_441, kn_442, kn_443, kn_444, kn_445, kn_446, kn_447, kn_448, kn_449, kn_450, kn_451, kn_452, kn_453, hdr, nI_1]
      have f1 : Fr (fun x j => x = 419 ∧ j = 50) s (sI s 419 50 (sd (s.1 419 50))) := Fr_sI ⟨rfl, rfl⟩
      generalize hd : drv (sd (s.1 419 50)) % 30 + 1 = nn at *
      have hKn : ∀ y, m0 ≤ y → y < min (m0 + nn) 480 → (if i % 2 = 1 then pnt K' true m0 (m0 + nn) else K') y = decide (i % 2 = 1) := fun y h1 h2 => by
        by_cases c3 : i % 2 = 1
        · rw [if_pos c3, decide_eq_true c3]
          unfold pnt
          rw [if_pos (by omega)]
        · rw [if_neg c3, decide_eq_false c3]
          exact hK y h1 (by omega)
      have hlow : ∀ y, y < m0 → (if i % 2 = 1 then pnt K' true m0 (m0 + nn) else K') y = K' y := fun y h1 => by
        by_cases c3 : i % 2 = 1
        · rw [if_pos c3]
          unfold pnt
          rw [if_neg (by omega)]
        · rw [if_neg c3]
      have hhi : ∀ y, m0 + nn ≤ y → y < 480 → (if i % 2 = 1 then pnt K' true m0 (m0 + nn) else K') y = false := fun y h1 h2 => by
        by_cases c3 : i % 2 = 1
        · rw [if_pos c3]
          unfold pnt
          rw [if_neg (by omega)]; exact hK y (by omega) h2
        · rw [if_neg c3]; exact hK y (by omega) h2
      obtain ⟨s1, a1, a2, a3⟩ := r_ds34 (N := N) (k16 := lX12_drawSky_16 N f) (pp := pp) (i := i) (nn := nn) (m0 := m0) (K' := if i % 2 = 1 then pnt K' true m0 (m0 + nn) else K') (by omega) (by omega) N 0 (min m0 480) (sI s 419 50 (sd (s.1 419 50))) (by omega) (by omega) (by omega) (by omega) (fun y hy => by
        rw [f1.1 _ _ (by omega), hlow y (by omega)]; exact hR y hy) hKn
      rw [nI0] at a1
      rw [a1]
      have e50 : s1.1 419 50 = sd (s.1 419 50) := by rw [a3.1 _ _ (by omega), sI_1, if_pos ⟨rfl, rfl⟩]
      obtain ⟨s2, b1, b2, b3, b4⟩ := ih (i + 1) (m0 + nn) (if i % 2 = 1 then pnt K' true m0 (m0 + nn) else K') s1 (by omega) (by omega) (by omega) a2 hhi
      rw [e50, hg2] at b2 b3
      rw [hg, wkl_s, Nat.add_assoc, hd]
      exact ⟨s2, b1, b2, b3, Fr_t (Fr_t (Fr_m f1 (by intros; omega)) (Fr_m a3 (by intros; omega))) b4⟩
theorem r_drawSky (hN1 : 1000 ≤ N) (hm : nowN st ≤ 480) (h0 : s.1 435 0 = nI (nowN st)) (hK : mSky s K) : ∃ s', fX12_drawSky N 419 (mk s) = some (.inl (), mk s') ∧ s'.1 419 50 = (wkS (s.1 419 50) (nowN st) K).1 ∧ mSky s' (wkS (s.1 419 50) (nowN st) K).2 ∧ Fr (fun x j => x = 429 ∨ (x = 419 ∧ j = 50)) s s' := by
  have hdr : fX12_drawOf N 419 16 (mk s) = some (.inl (nI (drv (sd (s.1 419 50)) % 16)), mk (sI s 419 50 (sd (s.1 419 50)))) := m_draw (l := 16) (by omega) (by omega)
  have hm16 := Nat.mod_lt (drv (sd (s.1 419 50))) (show 0 < 16 by omega)
  have f1 : Fr (fun x j => x = 429 ∨ (x = 419 ∧ j = 50)) s (sI s 419 50 (sd (s.1 419 50))) := Fr_sI (Or.inr ⟨rfl, rfl⟩)
  obtain ⟨s', b1, b2, b3, b4⟩ := r_ds16 (N := N) hN1 (pp := drv (sd (s.1 419 50)) % 16) (by omega) N 0 (nowN st) (pnt K false (nowN st) 480) (sI s 419 50 (sd (s.1 419 50))) (by omega) (by omega) (by omega) (fun y hy => by
    have e : pnt K false (nowN st) 480 y = K y := by unfold pnt; rw [if_neg (by omega)]
    rw [e, sI_1, if_neg (by omega)]; exact hK y (by omega)) (fun y h1 h2 => by unfold pnt; rw [if_pos ⟨h1, h2⟩])
  rw [show drv (sd (s.1 419 50)) % 16 - 0 = drv (sd (s.1 419 50)) % 16 by omega, sI_at] at b2 b3
  refine ⟨s', ?_, b2, b3, Fr_t f1 b4⟩
  rw [Nat.min_eq_left (by omega)] at b1
  unfold fX12_drawSky bX12_drawSky_0
  simp (decide := true) only [ob_s, cS_l, cS_r, gI_k, gR_k, pI_k, pR_k, cV_k, aI_k, tI_k, rZ_0, rZ_1, rZ_i, rf_12_0, rf_12_1, rf_12_3, rf_12_4, rf_12_5, rf_12_6, rf_12_7, rf_12_8, rf_12_9, rf_12_10, rf_12_11, rf_12_12, rf_12_13, rf_12_14, rf_12_15, rf_12_26, rf_12_27, rf_12_31, rf_12_32, rf_12_33, rf_12_34, rf_12_41, rf_12_44, rf_12_47, rf_12_48, rf_12_49, rf_12_51, rf_12_55, rf_12_56, rf_12_57, rf_12_58, rf_12_59, rf_12_60, Nat.reduceAdd, kc_419, kc_420, kc_421, kc_422, kc_423, kc_424, kc_425, kc_426, kc_427, kc_428, kc_429, kc_430, kc_431, kc_432, kc_433, kc_434, kc_435, kc_436, kc_437, kc_438, kc_439, kc_440, kc_441, kc_442, kc_443, kc_444, kc_445, kc_446, kc_447, kc_448, kc_449, kc_450, kc_451, kc_452, kc_453, kn_420, kn_421, kn_422, kn_423, kn_424, kn_425, kn_426, kn_427, kn_428, kn_429, kn_430, kn_431, kn_432, kn_433, kn_434, kn_435, kn_436, kn_437, kn_438, kn_439, kn_440, kn_441, kn_442, kn_443, kn_444, kn_445, kn_446, kn_447, kn_448, kn_449, kn_450, kn_451, kn_452, kn_453, hdr, nc_0, sI_c, Nat.reduceEqDiff, false_and, if_false, h0]
  exact b1
theorem r_week76 (hN1 : 1000 ≤ N) (W : Wp P n D mv) (Z : Ws st n D) (R : Wr nr q b) (hx : isRl nr x) (hw : w ≤ 2) (hk : k ≤ 10) : ∀ (f i : Nat) (K' : Nat → Bool) (v : Int32) (t : Int32 × Int32 × Int32) (s : sg), k - i < f → i ≤ k → (i = 0 → t.2.1 = 8 ∨ k = 0) → (i ≠ 0 → v = t.2.1) → (k = 0 → v = t.2.1) → RU2 s P nr q b st K' → ∃ s' r, lX12_week_76 N f 419 x (nI k) (nI w) t.1 v t.2.2 (nI i) (mk s) = bX12_week_141 N 419 (nI w) r.1 r.2.1 r.2.2 (mk s') ∧ r = wkf P n D mv q b x st (k - i) (s.1 419 50) K' t ∧ s'.1 419 2 = s.1 419 2 ∧ (∃ K2, RU2 s' P nr q b st K2) ∧ (∀ j, s'.1 446 j = s.1 446 j) ∧ Fr rS s s' := by
  have hn8 := W.1
  have hp8 := pn8 hn8
  have hD := W.2.2.2.1
  obtain ⟨⟨h0, h0'⟩, _⟩ := Ws_n Z W.1 W.2.2.2.1
  intro f
  induction f with
  | zero => intro i K' v t s hf; omega
  | succ f ih =>
    intro i K' v t s hf hi hv0 hv hvk h
    show ∃ s' r, bX12_week_76 N (lX12_week_76 N f) 419 x (nI k) (nI w) t.1 v t.2.2 (nI i) (mk s) = _ ∧ _
    unfold bX12_week_76
    by_cases c : k ≤ i
    · rw [if_pos (nI_le c (by omega)), show k - i = 0 by omega]
      have ev : v = t.2.1 := by
        by_cases g : i = 0
        · exact hvk (by omega)
        · exact hv g
      rw [ev]
      exact ⟨s, t, rfl, rfl, rfl, ⟨K', h⟩, fun _ => rfl, Fr_r _ _⟩
    · rw [if_neg (nI_ge (by omega) (by omega))]
      obtain ⟨g, hg, hg2⟩ := sub1 (show i < k by omega)
      have e0 : s.1 435 0 = nI (nowN st) := (h.1.2.1 0 (by omega)).trans h0
      obtain ⟨s1, a1, a2, a3, a4⟩ := r_drawSky (N := N) (st := st) hN1 (by omega) e0 h.1.2.2
      have fa : Fr rS s s1 := Fr_m a4 (fun y j g => by unfold rS rQ; omega)
      have h1 : RU2 s1 P nr q b st (wkS (s.1 419 50) (nowN st) K').2 := ⟨⟨fun g k hg hk => (a4.1 _ _ (by omega)).trans (h.1.1 g k hg hk), fun j hj => (a4.1 _ _ (by omega)).trans (h.1.2.1 j hj), a3⟩, RR_frS h.2.1 fa, (a4.1 _ _ (by omega)).trans h.2.2⟩
      obtain ⟨s2, b1, b2, b3, b4, b5, b6⟩ := r_dayBy50 (N := N) hN1 W Z R hx h1.1 h1.2.1
      have h2 := RU2_s h1 b6.1 (RV_U b4)
      obtain ⟨d1, d2⟩ := dBy_hd (K := (wkS (s.1 419 50) (nowN st) K').2) (q := q) (b := b) (x := x) W Z
      have e1 : s2.1 419 35 = nI (hdN (dBy P (wkS (s.1 419 50) (nowN st) K').2 n D mv q b x st)) := b2.1.trans d1
      simp (decide := true) only [ob_s, cS_l, cS_r, gI_k, gR_k, pI_k, pR_k, cV_k, aI_k, tI_k, rZ_0, rZ_1, rZ_i, rf_12_0, rf_12_1, rf_12_3, rf_12_4, rf_12_5, rf_12_6, rf_12_7, rf_12_8, rf_12_9, rf_12_10, rf_12_11, rf_12_12, rf_12_13, rf_12_14, rf_12_15, rf_12_26, rf_12_27, rf_12_31, rf_12_32, rf_12_33, rf_12_34, rf_12_41, rf_12_44, rf_12_47, rf_12_48, rf_12_49, rf_12_51, rf_12_55, rf_12_56, rf_12_57, rf_12_58, rf_12_59, rf_12_60, Nat.reduceAdd, kc_419, kc_420, kc_421, kc_422, kc_423, kc_424, kc_425, kc_426, kc_427, kc_428, kc_429, kc_430, kc_431, kc_432, kc_433, kc_434, kc_435, kc_436, kc_437, kc_438, kc_439, kc_440, kc_441, kc_442, kc_443, kc_444, kc_445, kc_446, kc_447, kc_448, kc_449, kc_450, kc_451, kc_452, kc_453, kn_420, kn_421, kn_422, kn_423, kn_424, kn_425, kn_426, kn_427, kn_428, kn_429, kn_430, kn_431, kn_432, kn_433, kn_434, kn_435, kn_436, kn_437, kn_438, kn_439, kn_440, kn_441, kn_442, kn_443, kn_444, kn_445, kn_446, kn_447, kn_448, kn_449, kn_450, kn_451, kn_452, kn_453, a1, b1, e1, m_bits hN1 (show hdN (dBy P (wkS (s.1 419 50) (nowN st) K').2 n D mv q b x st) < 256 by omega), b3]
      rw [hg, wkf_s]
      have e50 : s2.1 419 50 = (wkS (s.1 419 50) (nowN st) K').1 := b6.2.1.trans a2
      have nxt : ∀ v', v' = mnI t.2.1 (nI (dNo P (wkS (s.1 419 50) (nowN st) K').2 n D mv q b x st)) → ∃ s' r, bX12_week_133 N (lX12_week_76 N f) 419 x (nI k) (nI w) (t.1 + nI (dNo P (wkS (s.1 419 50) (nowN st) K').2 n D mv q b x st)) (t.2.2 + dFm P (wkS (s.1 419 50) (nowN st) K').2 n D mv q b x st) (nI i) v' (mk s2) = bX12_week_141 N 419 (nI w) r.1 r.2.1 r.2.2 (mk s') ∧ r = wkf P n D mv q b x st g (wkS (s.1 419 50) (nowN st) K').1 (wkS (s.1 419 50) (nowN st) K').2 (t.1 + nI (dNo P (wkS (s.1 419 50) (nowN st) K').2 n D mv q b x st), mnI t.2.1 (nI (dNo P (wkS (s.1 419 50) (nowN st) K').2 n D mv q b x st)), t.2.2 + dFm P (wkS (s.1 419 50) (nowN st) K').2 n D mv q b x st) ∧ s'.1 419 2 = s.1 419 2 ∧ (∃ K2, RU2 s' P nr q b st K2) ∧ (∀ j, s'.1 446 j = s.1 446 j) ∧ Fr rS s s' := by
        intro v' hv'
        unfold bX12_week_133
        rw [nI_1]
        obtain ⟨s3, r, g1, g2, g3, g4, g5, g6⟩ := ih (i + 1) (wkS (s.1 419 50) (nowN st) K').2 v' (t.1 + nI (dNo P (wkS (s.1 419 50) (nowN st) K').2 n D mv q b x st), mnI t.2.1 (nI (dNo P (wkS (s.1 419 50) (nowN st) K').2 n D mv q b x st)), t.2.2 + dFm P (wkS (s.1 419 50) (nowN st) K').2 n D mv q b x st) s2 (by omega) (by omega) (by omega) (fun _ => hv') (by omega) h2
        rw [hg2, e50] at g2
        exact ⟨s3, r, g1, g2, (g3.trans b5).trans (a4.1 _ _ (by omega)), g4, fun j => ((g5 j).trans (b6.2.2 j)).trans (a4.1 _ _ (by omega)), Fr_t (Fr_t fa b6.1) g6⟩
      by_cases c3 : i = 0
      · subst c3
        rw [if_neg (fun g => g rfl)]
        refine nxt _ ?_
        have h8 : t.2.1 = 8 := (hv0 rfl).elim id (fun g => by omega)
        rw [h8]
        have hp := pcf_8 (hdN (dBy P (wkS (s.1 419 50) (nowN st) K').2 n D mv q b x st))
        show nI (pcf _) = mnI (nI 8) (nI (pcf _))
        rw [mn_nI (by omega) (by omega), Nat.min_eq_right hp]
      · rw [if_pos (nI_ne0 (by omega) (by omega)), hv c3]
        exact nxt _ rfl
theorem r_week (hN1 : 1000 ≤ N) (W : Wp P n D mv) (Z : Ws st n D) (R : Wr nr q b) (hx : isRl nr x) (hw : w ≤ 2) (hk : k ≤ 10) (h : RU2 s P nr q b st K) (z : Int32) : ∃ s', fX12_week N 419 x z (nI k) (nI w) (mk s) = some (.inl (aWeek P K n D mv q b x st z k w), mk s') ∧ s'.1 419 2 = 0 ∧ RU2 s' P nr q b st K ∧ Fr rS s s' := by
  have f1 : Fr rQ s (sI s 419 2 0) := Fr_sI (by unfold rQ; omega)
  have h1 := RU2_q h f1
  have hpk := m_pack (N := N) (s := sI s 419 2 0) (a := 446) (t := 0) rfl (by decide) (by omega) (by omega) (by omega) hN1 h1.1.2.2
  rw [nI0] at hpk
  generalize hs2 : sI (sA (sI s 419 2 0) 446 (pkd ((sI s 419 2 0).1 446) 0 ((sI s 419 2 0).1 435) K)) 419 50 z = s2
  have f2 : Fr rQ (sI s 419 2 0) s2 := by
    rw [← hs2]
    exact Fr_t (Fr_sA (fun j => by unfold rQ; omega)) (Fr_sI (by unfold rQ; omega))
  have h2 := RU2_q h1 f2
  have e50 : s2.1 419 50 = z := by rw [← hs2, sI_1, if_pos ⟨rfl, rfl⟩]
  have e2 : s2.1 419 2 = 0 := by rw [← hs2, sI_1, if_neg (by omega), sA_ne _ _ _ (by omega), sI_1, if_pos ⟨rfl, rfl⟩]
  obtain ⟨s3, r, a1, a2, a3, ⟨K2, a4⟩, a5, a6⟩ := r_week76 (N := N) (k := k) (w := w) hN1 W Z R hx hw hk N 0 K 0 (0, if k = 0 then 0 else 8, 0) s2 (by omega) (by omega) (fun _ => by
    by_cases c : k = 0
    · exact Or.inr c
    · left; show (if k = 0 then (0 : Int32) else 8) = 8; rw [if_neg c]) (fun g => absurd rfl g) (fun g => by show (0 : Int32) = if k = 0 then 0 else 8; rw [if_pos g]) h2
  rw [e50, show k - 0 = k by omega] at a2
  have hun := m_unpack (N := N) (s := s3) (a := 446) (t := 0) rfl (by decide) (by omega) (by omega) (by omega) hN1
  rw [nI0] at hun
  have k446 : ∀ j, s3.1 446 j = pkd ((sI s 419 2 0).1 446) 0 ((sI s 419 2 0).1 435) K j := fun j => by
    rw [a5 j, ← hs2, sI_1, if_neg (by omega), sA_at]
  generalize hs4 : sA (sA s3 435 (fun j => if j < 15 then s3.1 446 (0 + j) else s3.1 435 j)) 429 (fun j => if j < 480 then sk_i (bt (s3.1 446 (0 + 15 + j / 30)) (j % 30)) else s3.1 429 j) = s4 at hun
  have f4 : Fr rS s3 s4 := by
    rw [← hs4]
    exact Fr_t (Fr_sA (fun j => Or.inr (Or.inl rfl))) (Fr_sA (fun j => Or.inr (Or.inr rfl)))
  have hU4 : RU s4 P st K := by
    refine ⟨fun g k hg hk => ?_, fun j hj => ?_, fun m hm => ?_⟩
    · have hne : 422 + g ≠ 429 := by omega
      rw [← hs4, sA_ne _ _ _ hne, sA_ne _ _ _ (by omega)]; exact a4.1.1 g k hg hk
    · rw [← hs4, sA_ne _ _ _ (by omega), sA_at, if_pos hj, k446]
      unfold pkd
      rw [if_neg (by omega), if_pos (by omega), show 0 + j - 0 = j by omega]
      exact h1.1.2.1 j hj
    · rw [← hs4, sA_at, if_pos hm, k446]
      unfold pkd
      rw [if_pos (by omega), show 0 + 15 + m / 30 - (0 + 15) = m / 30 by omega, bt_pw K (m / 30) 30 (by omega) (m % 30) (by omega)]
      have e : 30 * (m / 30) + m % 30 = m := Nat.div_add_mod m 30
      rw [e]
      simp [show m % 30 < 30 by omega]
  refine ⟨s4, ?_, ?_, ⟨hU4, RR_frS a4.2.1 f4, (f4.1 _ _ (by unfold rS rQ; omega)).trans a4.2.2⟩, Fr_t (Fr_t (Fr_t (Fr_m f1 (fun y j => rQ_rS)) (Fr_m f2 (fun y j => rQ_rS))) a6) f4⟩
  · have hinw : sb (0 ≤ nI w ∧ nI w ≤ nI 2) = 1 := sb_pos ((in_rng (by omega)).mpr ⟨w, hw, rfl⟩)
    have hink : sb (0 ≤ nI k ∧ nI k ≤ nI 10) = 1 := sb_pos ((in_rng (by omega)).mpr ⟨k, hk, rfl⟩)
    unfold fX12_week bX12_week_0
    simp (decide := true) only [ob_s, cS_l, cS_r, gI_k, gR_k, pI_k, pR_k, cV_k, aI_k, tI_k, rZ_0, rZ_1, rZ_i, rf_12_0, rf_12_1, rf_12_3, rf_12_4, rf_12_5, rf_12_6, rf_12_7, rf_12_8, rf_12_9, rf_12_10, rf_12_11, rf_12_12, rf_12_13, rf_12_14, rf_12_15, rf_12_26, rf_12_27, rf_12_31, rf_12_32, rf_12_33, rf_12_34, rf_12_41, rf_12_44, rf_12_47, rf_12_48, rf_12_49, rf_12_51, rf_12_55, rf_12_56, rf_12_57, rf_12_58, rf_12_59, rf_12_60, Nat.reduceAdd, kc_419, kc_420, kc_421, kc_422, kc_423, kc_424, kc_425, kc_426, kc_427, kc_428, kc_429, kc_430, kc_431, kc_432, kc_433, kc_434, kc_435, kc_436, kc_437, kc_438, kc_439, kc_440, kc_441, kc_442, kc_443, kc_444, kc_445, kc_446, kc_447, kc_448, kc_449, kc_450, kc_451, kc_452, kc_453, kn_420, kn_421, kn_422, kn_423, kn_424, kn_425, kn_426, kn_427, kn_428, kn_429, kn_430, kn_431, kn_432, kn_433, kn_434, kn_435, kn_436, kn_437, kn_438, kn_439, kn_440, kn_441, kn_442, kn_443, kn_444, kn_445, kn_446, kn_447, kn_448, kn_449, kn_450, kn_451, kn_452, kn_453, r_isRule R h.2.2 hx, if_false, m_isIn0 N _ (nI w) 2 2 rfl, hinw, if_true, m_isIn0 N _ (nI k) 10 10 rfl, hink, hpk, hs2]
    have a1' : lX12_week_76 N N 419 x (nI k) (nI w) 0 0 0 0 (mk s2) = bX12_week_141 N 419 (nI w) r.1 r.2.1 r.2.2 (mk s3) := a1
    rw [a1']
    unfold bX12_week_141
    simp (decide := true) only [ob_s, cS_l, cS_r, gI_k, gR_k, pI_k, pR_k, cV_k, aI_k, tI_k, rZ_0, rZ_1, rZ_i, rf_12_0, rf_12_1, rf_12_3, rf_12_4, rf_12_5, rf_12_6, rf_12_7, rf_12_8, rf_12_9, rf_12_10, rf_12_11, rf_12_12, rf_12_13, rf_12_14, rf_12_15, rf_12_26, rf_12_27, rf_12_31, rf_12_32, rf_12_33, rf_12_34, rf_12_41, rf_12_44, rf_12_47, rf_12_48, rf_12_49, rf_12_51, rf_12_55, rf_12_56, rf_12_57, rf_12_58, rf_12_59, rf_12_60, Nat.reduceAdd, kc_419, kc_420, kc_421, kc_422, kc_423, kc_424, kc_425, kc_426, kc_427, kc_428, kc_429, kc_430, kc_431, kc_432, kc_433, kc_434, kc_435, kc_436, kc_437, kc_438, kc_439, kc_440, kc_441, kc_442, kc_443, kc_444, kc_445, kc_446, kc_447, kc_448, kc_449, kc_450, kc_451, kc_452, kc_453, kn_420, kn_421, kn_422, kn_423, kn_424, kn_425, kn_426, kn_427, kn_428, kn_429, kn_430, kn_431, kn_432, kn_433, kn_434, kn_435, kn_436, kn_437, kn_438, kn_439, kn_440, kn_441, kn_442, kn_443, kn_444, kn_445, kn_446, kn_447, kn_448, kn_449, kn_450, kn_451, kn_452, kn_453, hun]
    unfold aWeek pk3
    rw [← a2]
    rcases (show w = 0 ∨ w = 1 ∨ w = 2 by omega) with rfl | rfl | rfl <;> simp (decide := true)
  · rw [← hs4, sA_ne _ _ _ (by omega), sA_ne _ _ _ (by omega), a3, e2]
theorem r_week' {y v z : Int32} (R : Wr nr q b) (h : RU2 s P nr q b st K) (hxy : ¬ isRl nr x ∨ isRl nr x ∧ ¬ (0 ≤ v ∧ v ≤ nI 2)) : fX12_week N 419 x z y v (mk s) = some (.inl 0, mk (sI (sI s 419 2 0) 419 2 1)) := by
  unfold fX12_week bX12_week_0 bX12_week_26
  rcases hxy with hx | ⟨hx, hy⟩
  · simp (decide := true) only [ob_s, cS_l, cS_r, gI_k, gR_k, pI_k, pR_k, cV_k, aI_k, tI_k, rZ_0, rZ_1, rZ_i, rf_12_0, rf_12_1, rf_12_3, rf_12_4, rf_12_5, rf_12_6, rf_12_7, rf_12_8, rf_12_9, rf_12_10, rf_12_11, rf_12_12, rf_12_13, rf_12_14, rf_12_15, rf_12_26, rf_12_27, rf_12_31, rf_12_32, rf_12_33, rf_12_34, rf_12_41, rf_12_44, rf_12_47, rf_12_48, rf_12_49, rf_12_51, rf_12_55, rf_12_56, rf_12_57, rf_12_58, rf_12_59, rf_12_60, Nat.reduceAdd, kc_419, kc_420, kc_421, kc_422, kc_423, kc_424, kc_425, kc_426, kc_427, kc_428, kc_429, kc_430, kc_431, kc_432, kc_433, kc_434, kc_435, kc_436, kc_437, kc_438, kc_439, kc_440, kc_441, kc_442, kc_443, kc_444, kc_445, kc_446, kc_447, kc_448, kc_449, kc_450, kc_451, kc_452, kc_453, kn_420, kn_421, kn_422, kn_423, kn_424, kn_425, kn_426, kn_427, kn_428, kn_429, kn_430, kn_431, kn_432, kn_433, kn_434, kn_435, kn_436, kn_437, kn_438, kn_439, kn_440, kn_441, kn_442, kn_443, kn_444, kn_445, kn_446, kn_447, kn_448, kn_449, kn_450, kn_451, kn_452, kn_453, r_isRule' R h.2.2 hx, r_bad1, if_true]
  · simp (decide := true) only [ob_s, cS_l, cS_r, gI_k, gR_k, pI_k, pR_k, cV_k, aI_k, tI_k, rZ_0, rZ_1, rZ_i, rf_12_0, rf_12_1, rf_12_3, rf_12_4, rf_12_5, rf_12_6, rf_12_7, rf_12_8, rf_12_9, rf_12_10, rf_12_11, rf_12_12, rf_12_13, rf_12_14, rf_12_15, rf_12_26, rf_12_27, rf_12_31, rf_12_32, rf_12_33, rf_12_34, rf_12_41, rf_12_44, rf_12_47, rf_12_48, rf_12_49, rf_12_51, rf_12_55, rf_12_56, rf_12_57, rf_12_58, rf_12_59, rf_12_60, Nat.reduceAdd, kc_419, kc_420, kc_421, kc_422, kc_423, kc_424, kc_425, kc_426, kc_427, kc_428, kc_429, kc_430, kc_431, kc_432, kc_433, kc_434, kc_435, kc_436, kc_437, kc_438, kc_439, kc_440, kc_441, kc_442, kc_443, kc_444, kc_445, kc_446, kc_447, kc_448, kc_449, kc_450, kc_451, kc_452, kc_453, kn_420, kn_421, kn_422, kn_423, kn_424, kn_425, kn_426, kn_427, kn_428, kn_429, kn_430, kn_431, kn_432, kn_433, kn_434, kn_435, kn_436, kn_437, kn_438, kn_439, kn_440, kn_441, kn_442, kn_443, kn_444, kn_445, kn_446, kn_447, kn_448, kn_449, kn_450, kn_451, kn_452, kn_453, r_isRule R h.2.2 hx, if_false, m_isIn0 N _ v 2 2 rfl, sb_neg hy, r_bad1]
theorem r_week2 {y z : Int32} (R : Wr nr q b) (h : RU2 s P nr q b st K) (hx : isRl nr x) (hw : w ≤ 2) (hy : ¬ (0 ≤ y ∧ y ≤ nI 10)) : fX12_week N 419 x z y (nI w) (mk s) = some (.inl 0, mk (sI (sI s 419 2 0) 419 2 2)) := by
  have hinw : sb (0 ≤ nI w ∧ nI w ≤ nI 2) = 1 := sb_pos ((in_rng (by omega)).mpr ⟨w, hw, rfl⟩)
  unfold fX12_week bX12_week_0
  simp (decide := true) only [ob_s, cS_l, cS_r, gI_k, gR_k, pI_k, pR_k, cV_k, aI_k, tI_k, rZ_0, rZ_1, rZ_i, rf_12_0, rf_12_1, rf_12_3, rf_12_4, rf_12_5, rf_12_6, rf_12_7, rf_12_8, rf_12_9, rf_12_10, rf_12_11, rf_12_12, rf_12_13, rf_12_14, rf_12_15, rf_12_26, rf_12_27, rf_12_31, rf_12_32, rf_12_33, rf_12_34, rf_12_41, rf_12_44, rf_12_47, rf_12_48, rf_12_49, rf_12_51, rf_12_55, rf_12_56, rf_12_57, rf_12_58, rf_12_59, rf_12_60, Nat.reduceAdd, kc_419, kc_420, kc_421, kc_422, kc_423, kc_424, kc_425, kc_426, kc_427, kc_428, kc_429, kc_430, kc_431, kc_432, kc_433, kc_434, kc_435, kc_436, kc_437, kc_438, kc_439, kc_440, kc_441, kc_442, kc_443, kc_444, kc_445, kc_446, kc_447, kc_448, kc_449, kc_450, kc_451, kc_452, kc_453, kn_420, kn_421, kn_422, kn_423, kn_424, kn_425, kn_426, kn_427, kn_428, kn_429, kn_430, kn_431, kn_432, kn_433, kn_434, kn_435, kn_436, kn_437, kn_438, kn_439, kn_440, kn_441, kn_442, kn_443, kn_444, kn_445, kn_446, kn_447, kn_448, kn_449, kn_450, kn_451, kn_452, kn_453, r_isRule R h.2.2 hx, if_false, m_isIn0 N _ (nI w) 2 2 rfl, hinw, if_true, m_isIn0 N _ y 10 10 rfl, sb_neg hy, m_fail]
end WK
