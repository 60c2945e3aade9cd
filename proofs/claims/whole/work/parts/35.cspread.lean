/- needs: 34.csearch -/
/-! the class's table of soonest ends, and the most -/
theorem anN_0 {S w : Nat} (hS : S < 256) : anN S w = 0 ↔ ∀ j, j < 8 → S.testBit j = true → w.testBit j = true := by
  constructor
  · intro h j hj q
    have := anN_tb (H := w) hS j
    rw [h, Nat.zero_testBit, q] at this
    simpa using this
  · intro h
    apply Nat.eq_of_testBit_eq
    intro j
    rw [anN_tb hS, Nat.zero_testBit]
    by_cases hj : j < 8
    · cases q : S.testBit j
      · rfl
      · rw [h j hj q]; rfl
    · have : S.testBit j = false := Nat.testBit_lt_two_pow (Nat.lt_of_lt_of_le hS (show 2 ^ 8 ≤ 2 ^ j from Nat.pow_le_pow_right (by omega) (by omega)))
      rw [this]; rfl
theorem anN_big {S w n : Nat} (hn : n ≤ 8) (hS : S < 256) (h : 2 ^ n ≤ S) (hw : w < 2 ^ n) : anN S w ≠ 0 := by
  intro q
  have h1 := (anN_0 hS).mp q
  have h2 : S ≤ w := by
    have : S ||| w = w := by
      apply Nat.eq_of_testBit_eq
      intro j
      rw [Nat.testBit_or]
      by_cases hj : j < 8
      · cases e : S.testBit j
        · simp
        · rw [h1 j hj e]; rfl
      · have : S.testBit j = false := Nat.testBit_lt_two_pow (Nat.lt_of_lt_of_le hS (show 2 ^ 8 ≤ 2 ^ j from Nat.pow_le_pow_right (by omega) (by omega)))
        rw [this]; simp
    rw [← this]
    exact Nat.left_le_or
  omega
/-- sets that are none of w have no end -/
def Nvr (w : Nat) (T : Nat → Nat) : Prop := ∀ S q, S < 256 → q ≤ 1 → anN S w ≠ 0 → T (2 * S + q) = 100000
def Tok (T : Nat → Nat) : Prop := ∀ j, T j ≤ 480 ∨ T j = 100000
/-- the class's cell by the reference's table: h sets have been met already -/
def Rel (s : sg) (w mv h : Nat) (T : Nat → Nat) : Prop := ∀ S q, S < 256 → q ≤ 1 → ∃ c, s.1 414 (2 * S + q) = nI c ∧ (if S < h ∧ anN S w = 0 then rl2 c (min (T (2 * S + q)) (T (2 * S + (1 - q)) + mv)) else rl1 c (T (2 * S + q)))
theorem rl1_lt {c t : Nat} (h : rl1 c t) : c ≤ 1000000 := by unfold rl1 at h; omega
theorem rl2_lt {c t : Nat} (h : rl2 c t) : c ≤ 1000300 := by unfold rl2 at h; omega
theorem rl1_min {c t c' t' : Nat} (h : rl1 c t) (h' : rl1 c' t') : rl1 (min c c') (min t t') := by unfold rl1 at *; omega
theorem rl2_meet {c t c' t' mv : Nat} (hm : mv ≤ 120) (h : rl1 c t) (h' : rl1 c' t') : rl2 (min c (c' + mv)) (min t (t' + mv)) := by unfold rl1 at *; unfold rl2; omega
section CT
variable {N : Nat} {s : sg} {K : Nat → Bool} {st : Nat → Int32} {P : pln} {p a n D mv E H k m w h : Nat} {T : Nat → Nat}
theorem ix2 {S q : Nat} (hS : S < 256) (hq : q ≤ 1) : inB (nI (2 * S + q)) 512 = true ∧ (nI (2 * S + q)).toNatClampNeg = 2 * S + q := ⟨inA_nI (by omega) (by omega), nI_clamp (by omega)⟩
theorem ixm (S q : Nat) : nI S * 2 + nI q = nI (2 * S + q) := by
  rw [show (2 : Int32) = nI 2 from rfl, nI_mul, nI_add]
  congr 1
  omega
theorem c_meet (W : Wp P n D mv) (hp : plA p) (hP : CPl s p P n D mv) (h6 : s.2.1 394 6 = p) (hh : h < 256) (hw : anN h w = 0) (hR : Rel s w mv h T) : ∃ s', fX6_meetPlaces N 394 (nI h) (mk s) = some (.inl (), mk s') ∧ Rel s' w mv (h + 1) T ∧ Fr (fun x _ => x = 414) s s' := by
  have hpO := plA_O hp
  have hmv := W.2.2.2.2.2.1
  have hp2 := plA_le hp
  obtain ⟨c0, e0, r0⟩ := hR h 0 hh (by omega)
  obtain ⟨c1, e1, r1⟩ := hR h 1 hh (by omega)
  rw [if_neg (by omega)] at r0 r1
  have x0 := ixm h 0
  have x1 := ixm h 1
  rw [nI0] at x0
  rw [show nI 1 = (1 : Int32) from rfl] at x1
  have q0 := ix2 (q := 0) hh (by omega)
  have q1 := ix2 (q := 1) hh (by omega)
  have l0 := rl1_lt r0
  have l1 := rl1_lt r1
  unfold fX6_meetPlaces bX6_meetPlaces_0
  simp (decide := true) only [Option.bind_some, cS_inl, cS_inr, gI_k, gR_k, pI_k, pR_k, cV_k, aI_k, tI_k, rZ_0, rZ_1, rZ_i, aR_24, aR_27, rf_3_6, rf_6_4, rf_6_9, rf_6_10, rf_6_11, rf_6_12, rf_6_5, rf_6_6, rf_6_7, Nat.reduceAdd, kc_394, kc_395, kc_396, kc_397, kc_398, kc_399, kc_400, kc_401, kc_402, kc_403, kc_404, kc_405, kc_406, kc_407, kc_408, kc_409, kc_410, kc_411, kc_412, kc_413, kc_414, kc_415, kc_416, kc_417, kc_418, kn_395, kn_396, kn_397, kn_398, kn_399, kn_400, kn_401, kn_402, kn_403, kn_404, kn_405, kn_406, kn_407, kn_408, kn_409, kn_410, kn_411, kn_412, kn_413, kn_414, kn_415, kn_417, kn_418, h6, hpO.1, hP.2.1, x0, x1, q0.1, q0.2, q1.1, q1.2, e0, e1, sI_c, sI_r, show ¬ (p = 414) by omega, false_and, if_false, nI_add]
  rw [mn_nI (by omega) (by omega), mn_nI (by omega) (by omega)]
  refine ⟨_, rfl, ?_, Fr_t (Fr_sI rfl) (Fr_sI rfl)⟩
  intro S q hS hq
  by_cases e : S = h
  · subst e
    rcases (show q = 0 ∨ q = 1 by omega) with rfl | rfl
    · refine ⟨min c0 (c1 + mv), ?_, ?_⟩
      · rw [sI_1, if_neg (by omega), sI_1, if_pos ⟨rfl, rfl⟩]
      · rw [if_pos ⟨by omega, hw⟩]
        exact rl2_meet hmv r0 r1
    · refine ⟨min c1 (c0 + mv), ?_, ?_⟩
      · rw [sI_1, if_pos ⟨rfl, rfl⟩]
      · rw [if_pos ⟨by omega, hw⟩]
        exact rl2_meet hmv r1 r0
  · obtain ⟨c, e2, r2⟩ := hR S q hS hq
    refine ⟨c, ?_, ?_⟩
    · rw [sI_1, if_neg (by omega), sI_1, if_neg (by omega), e2]
    · by_cases g : S < h ∧ anN S w = 0
      · rw [if_pos g] at r2
        rw [if_pos ⟨by omega, g.2⟩]; exact r2
      · rw [if_neg g] at r2
        rw [if_neg (fun g2 => g ⟨by omega, g2.2⟩)]; exact r2
theorem pls_le (k : Nat) : pls P k ≤ 1 := by unfold pls; split <;> omega
theorem pls_sk (k : Nat) : sk_i (decide (P 1 k = 2)) = nI (pls P k) := by
  unfold pls
  by_cases c : P 1 k = 2
  · simp [c, sk_i]; rfl
  · simp [c, sk_i]; rfl
theorem c_spreadsBy (W : Wp P n D mv) (hE : E ≤ 480) (hp : plA p) (hP : CPl s p P n D mv) (hS : SvP s p a E K) (hF : FcR s P st K E n) (hk : k < n) (hh : h < 256) (hw : anN h w = 0) (hb : h.testBit k = false) (hR : Rel s w mv (h + 1) T) (hT : Tok T) : ∃ s', fX6_spreadsBy N 394 (nI k) (nI h) (mk s) = some (.inl (), mk s') ∧ Rel s' w mv (h + 1) (fun j => if j = 2 * (h ||| 2 ^ k) + pls P k then min (T j) (bhk P st K E k (min (T (2 * h + pls P k)) (T (2 * h + (1 - pls P k)) + mv))) else T j) ∧ Fr (fun x _ => x = 414) s s' := by
  have hn8 := W.1
  have hpO := plA_O hp
  have hp2 := plA_le hp
  have hq := hpO.2.2.2.1 k (by omega)
  have i1 : inB (nI k) 8 = true := inA_nI (by omega) (by omega)
  have hpl := pls_le (P := P) k
  have hto := tb_or h hh k (by omega) hb
  have hgt := or_gt hb
  obtain ⟨c, e0, r0⟩ := hR h (pls P k) hh hpl
  rw [if_pos ⟨by omega, hw⟩] at r0
  have q0 := ix2 hh hpl
  have q1 := ix2 (S := h ||| 2 ^ k) (q := pls P k) (by omega) hpl
  obtain ⟨c1, e1, r1⟩ := hR (h ||| 2 ^ k) (pls P k) (by omega) hpl
  rw [if_neg (by omega)] at r1
  have l0 := rl2_lt r0
  have l1 := rl1_lt r1
  obtain ⟨e, he, re⟩ := c_endFrom (N := N) (st := st) W hE hp hP hS hF hk r0 (by omega)
  have le := rl1_lt re
  unfold fX6_spreadsBy bX6_spreadsBy_0
  simp (decide := true) only [Option.bind_some, cS_inl, cS_inr, gI_k, gR_k, pI_k, pR_k, cV_k, aI_k, tI_k, rZ_0, rZ_1, rZ_i, aR_24, aR_27, rf_3_6, rf_6_4, rf_6_9, rf_6_10, rf_6_11, rf_6_12, rf_6_5, rf_6_6, rf_6_7, Nat.reduceAdd, kc_394, kc_395, kc_396, kc_397, kc_398, kc_399, kc_400, kc_401, kc_402, kc_403, kc_404, kc_405, kc_406, kc_407, kc_408, kc_409, kc_410, kc_411, kc_412, kc_413, kc_414, kc_415, kc_416, kc_417, kc_418, kn_395, kn_396, kn_397, kn_398, kn_399, kn_400, kn_401, kn_402, kn_403, kn_404, kn_405, kn_406, kn_407, kn_408, kn_409, kn_410, kn_411, kn_412, kn_413, kn_414, kn_415, kn_417, kn_418, hS.1, hpO.1, hpO.2.1, hpO.2.2.1, i1, nI_clamp (show k < 2 ^ 31 by omega), hq, c_place hq (hP.2.2.2 k hk), pls_sk, ixm, q0.1, q0.2, e0, he, or_bit h k (by omega), q1.1, q1.2, e1]
  rw [mn_nI (by omega) (by omega)]
  refine ⟨_, rfl, ?_, Fr_sI rfl⟩
  intro S q hS2 hq2
  have low : ∀ j, j ≤ 2 * h + 1 → (fun j => if j = 2 * (h ||| 2 ^ k) + pls P k then min (T j) (bhk P st K E k (min (T (2 * h + pls P k)) (T (2 * h + (1 - pls P k)) + mv))) else T j) j = T j := fun j hj => if_neg (by omega)
  by_cases g : S < h + 1 ∧ anN S w = 0
  · obtain ⟨c2, e2, r2⟩ := hR S q hS2 hq2
    rw [if_pos g] at r2
    refine ⟨c2, ?_, ?_⟩
    · rw [sI_1, if_neg (by omega), e2]
    · rw [if_pos g, low _ (by omega), low _ (by omega)]; exact r2
  · by_cases g2 : 2 * S + q = 2 * (h ||| 2 ^ k) + pls P k
    · have eS : S = h ||| 2 ^ k := by omega
      have eq : q = pls P k := by omega
      subst eS eq
      refine ⟨min c1 e, ?_, ?_⟩
      · rw [sI_1, if_pos ⟨rfl, rfl⟩]
      · rw [if_neg g]
        show rl1 (min c1 e) (if 2 * (h ||| 2 ^ k) + pls P k = 2 * (h ||| 2 ^ k) + pls P k then _ else _)
        rw [if_pos rfl]
        exact rl1_min r1 re
    · obtain ⟨c2, e2, r2⟩ := hR S q hS2 hq2
      rw [if_neg g] at r2
      refine ⟨c2, ?_, ?_⟩
      · rw [sI_1, if_neg (fun q => g2 q.2), e2]
      · rw [if_neg g]
        show rl1 c2 (if 2 * S + q = 2 * (h ||| 2 ^ k) + pls P k then _ else _)
        rw [if_neg g2]; exact r2
theorem tSt_tok (W : Wp P n D mv) (hE : E ≤ 480) (hk : k < n) (op : Nat → Nat → Bool) (hT : Tok T) : Tok (tSt mv (bhk P st K E) (pls P) op h k T) := by
  intro j
  unfold tSt
  split
  · show (if j = _ then _ else _) ≤ 480 ∨ (if j = _ then _ else _) = 100000
    split
    · have h1 := hT j
      have h2 := (bhk_okB (st := st) (K := K) W hE 0 0 0).2.2.2.1 k (min (T (2 * h + pls P k)) (T (2 * h + (1 - pls P k)) + mv)) hk
      omega
    · exact hT j
  · exact hT j
theorem or_tb {S k j : Nat} : (S ||| 2 ^ k).testBit j = (S.testBit j || decide (k = j)) := by rw [Nat.testBit_or, Nat.testBit_two_pow]
theorem tSt_nvr (W : Wp P n D mv) (hk : k < n) (hw : w < 256) (hT : Nvr w T) (hh : h < 256) (hE : E ≤ 480) : Nvr w (tSt mv (bhk P st K E) (pls P) (opn P H w 0) h k T) := by
  have hn8 := W.1
  intro S q hS hq hn
  unfold tSt
  by_cases ho : opn P H w 0 k h = true
  · rw [if_pos ho]
    show (if 2 * S + q = _ then _ else _) = _
    have hpl := pls_le (P := P) k
    by_cases e : 2 * S + q = 2 * (h ||| 2 ^ k) + pls P k
    · rw [if_pos e]
      have eS : S = h ||| 2 ^ k := by omega
      have hnh : anN h w ≠ 0 := by
        intro q0
        apply hn
        rw [anN_0 hS]
        intro j hj q1
        rw [eS, or_tb] at q1
        cases e1 : h.testBit j
        · rw [e1] at q1
          have : k = j := by simpa using q1
          subst this
          unfold opn at ho
          simp only [Bool.and_eq_true] at ho
          exact ho.1
        · exact (anN_0 hh).mp q0 j hj e1
      rw [hT S q hS hq hn, hT h (pls P k) hh hpl hnh, hT h (1 - pls P k) hh (by omega) hnh]
      have : bhk P st K E k (min 100000 (100000 + mv)) = 100000 := bhk_end (by omega)
      rw [this]
      rfl
    · rw [if_neg e]; exact hT S q hS hq hn
  · rw [if_neg ho]; exact hT S q hS hq hn
/-- at a set that is none of w nothing changes -/
theorem tSt_same (W : Wp P n D mv) (hk : k < n) (hT : Nvr w T) (hTk : Tok T) (hh : h < 256) (hE : E ≤ 480) (hn : anN h w ≠ 0) : tSt mv (bhk P st K E) (pls P) (opn P H w 0) h k T = T := by
  have hpl := pls_le (P := P) k
  unfold tSt
  split
  · funext j
    show (if j = _ then _ else _) = _
    split
    · rw [hT h (pls P k) hh hpl hn, hT h (1 - pls P k) hh (by omega) hn]
      have : bhk P st K E k (min 100000 (100000 + mv)) = 100000 := bhk_end (by omega)
      rw [this]
      have := hTk j
      omega
    · rfl
  · rfl
theorem tRw_same (W : Wp P n D mv) (hT : Nvr w T) (hTk : Tok T) (hh : h < 256) (hE : E ≤ 480) (hn : anN h w ≠ 0) : ∀ f k, k + f ≤ n → tRw mv (bhk P st K E) (pls P) (opn P H w 0) h f k T = T
  | 0, _, _ => rfl
  | f + 1, k, hk => by
    show tRw mv _ _ _ h f (k + 1) (tSt mv _ _ _ h k T) = T
    rw [tSt_same W (by omega) hT hTk hh hE hn]
    exact tRw_same W hT hTk hh hE hn f (k + 1) (by omega)
theorem opn_bit {al fr k had : Nat} (h : opn P H al fr k had = true) : had.testBit k = false := by
  unfold opn at h
  simp only [Bool.and_eq_true, Bool.not_eq_true'] at h
  exact h.2.1
theorem bit_nz (x k : Nat) (hk : k < 32) : (nI x &&& ((1 : Int32) <<< (nI k &&& 31)) = 0) ↔ x.testBit k = false := by
  constructor
  · intro h
    have := congrArg (fun y => bt y k) h
    simp only [b_and, bt_nI _ _ hk, b_shl1 k hk hk, b_0] at this
    simpa using this
  · intro h
    refine b_ext fun i hi => ?_
    rw [b_and, bt_nI _ _ hi, b_shl1 k hk hi, b_0]
    by_cases e : i = k
    · subst e; rw [h]; rfl
    · simp [e]
theorem or_nI (x y : Nat) : nI x ||| nI y = nI (x ||| y) := b_ext fun i hi => by rw [b_or, bt_nI _ _ hi, bt_nI _ _ hi, bt_nI _ _ hi, Nat.testBit_or]
theorem c_spr66 (hN : 1000 ≤ N) (W : Wp P n D mv) (hE : E ≤ 480) (hp : plA p) (ha : stA a) (hH : st 2 = nI H) (hw8 : w < 256) {k44 : Nat → Int32 → Int32 → mm_C → mR Unit} (hh : h < 256) (hw : anN h w = 0) : ∀ (f k : Nat) (s : sg) (T : Nat → Nat), n - k < f → k ≤ n → CPl s p P n D mv → SAt s a st K → SvP s p a E K → FcR s P st K E n → Rel s w mv (h + 1) T → Tok T → Nvr w T → ∃ s', lX6_spreads_66 N k44 f 394 (nI w) (nI h) (nI k) (mk s) = k44 394 (nI w) (nI (h + 1)) (mk s') ∧ Rel s' w mv (h + 1) (tRw mv (bhk P st K E) (pls P) (opn P H w 0) h (n - k) k T) ∧ Tok (tRw mv (bhk P st K E) (pls P) (opn P H w 0) h (n - k) k T) ∧ Nvr w (tRw mv (bhk P st K E) (pls P) (opn P H w 0) h (n - k) k T) ∧ Fr (fun x _ => x = 414) s s' := by
  have hn8 := W.1
  have hpO := plA_O hp
  have hp2 := plA_le hp
  have ha2 := stA_le ha
  intro f
  induction f with
  | zero => intro k s T hf; omega
  | succ f ih =>
    intro k s T hf hk hP hs hS hF hR hT hV
    show ∃ s', bX6_spreads_66 N k44 (lX6_spreads_66 N k44 f) 394 (nI w) (nI h) (nI k) (mk s) = _ ∧ _
    unfold bX6_spreads_66
    simp (decide := true) only [Option.bind_some, cS_inl, cS_inr, gI_k, gR_k, pI_k, pR_k, cV_k, aI_k, tI_k, rZ_0, rZ_1, rZ_i, aR_24, aR_27, rf_3_6, rf_6_4, rf_6_9, rf_6_10, rf_6_11, rf_6_12, rf_6_5, rf_6_6, rf_6_7, Nat.reduceAdd, kc_394, kc_395, kc_396, kc_397, kc_398, kc_399, kc_400, kc_401, kc_402, kc_403, kc_404, kc_405, kc_406, kc_407, kc_408, kc_409, kc_410, kc_411, kc_412, kc_413, kc_414, kc_415, kc_416, kc_417, kc_418, kn_395, kn_396, kn_397, kn_398, kn_399, kn_400, kn_401, kn_402, kn_403, kn_404, kn_405, kn_406, kn_407, kn_408, kn_409, kn_410, kn_411, kn_412, kn_413, kn_414, kn_415, kn_417, kn_418, hS.1, hpO.1, hP.2.2.1]
    by_cases c1 : n ≤ k
    · rw [if_pos (nI_le c1 (by omega))]
      unfold bX6_spreads_118
      rw [nI_1, show n - k = 0 by omega]
      exact ⟨s, rfl, hR, hT, hV, Fr_r _ _⟩
    · rw [if_neg (nI_ge (by omega) (by omega))]
      have hkn : k < n := by omega
      obtain ⟨g, hg⟩ : ∃ g, n - k = g + 1 := ⟨n - k - 1, by omega⟩
      have e2 : s.1 a 2 = nI H := hs.2.2.1.trans hH
      rw [anN_i hw8]
      have nxt : ∀ s2 T2, Rel s2 w mv (h + 1) T2 → T2 = tSt mv (bhk P st K E) (pls P) (opn P H w 0) h k T → Fr (fun x _ => x = 414) s s2 → ∃ s', bX6_spreads_112 N k44 (lX6_spreads_66 N k44 f) 394 (nI w) (nI h) (nI k) (mk s2) = k44 394 (nI w) (nI (h + 1)) (mk s') ∧ Rel s' w mv (h + 1) (tRw mv (bhk P st K E) (pls P) (opn P H w 0) h (n - k) k T) ∧ Tok (tRw mv (bhk P st K E) (pls P) (opn P H w 0) h (n - k) k T) ∧ Nvr w (tRw mv (bhk P st K E) (pls P) (opn P H w 0) h (n - k) k T) ∧ Fr (fun x _ => x = 414) s s' := by
        intro s2 T2 a1 a2 a3
        unfold bX6_spreads_112
        rw [nI_1]
        obtain ⟨s', b1, b2, b3, b4, b5⟩ := ih (k + 1) s2 T2 (by omega) (by omega) (CPl_fr hP hn8 a3 (by intros; omega)) (SAt_fr hs a3 (by intros; omega)) (SvP_fr hS a3 (by intros; omega) (by intros; omega)) (fun k' hk' m hm => by rw [a3.1 _ _ (by omega)]; exact hF k' hk' m hm) a1 (by rw [a2]; exact tSt_tok W hE hkn _ hT) (by rw [a2]; exact tSt_nvr W hkn hw8 hV hh hE)
        rw [a2, show n - (k + 1) = g by omega] at b2 b3 b4
        rw [hg]
        exact ⟨s', b1, b2, b3, b4, Fr_t a3 b5⟩
      have skip : opn P H w 0 k h = false → T = tSt mv (bhk P st K E) (pls P) (opn P H w 0) h k T := fun q => by
        unfold tSt
        rw [if_neg (by rw [q]; decide)]
      by_cases c2 : (anN w h).testBit k = true
      · rw [if_neg (by rw [bit_nz _ _ (by omega), c2]; decide)]
        rw [anN_tb hw8] at c2
        simp only [Bool.and_eq_true, Bool.not_eq_true'] at c2
        simp (decide := true) only [Option.bind_some, cS_inl, cS_inr, gI_k, gR_k, pI_k, pR_k, cV_k, aI_k, tI_k, rZ_0, rZ_1, rZ_i, aR_24, aR_27, rf_3_6, rf_6_4, rf_6_9, rf_6_10, rf_6_11, rf_6_12, rf_6_5, rf_6_6, rf_6_7, Nat.reduceAdd, kc_394, kc_395, kc_396, kc_397, kc_398, kc_399, kc_400, kc_401, kc_402, kc_403, kc_404, kc_405, kc_406, kc_407, kc_408, kc_409, kc_410, kc_411, kc_412, kc_413, kc_414, kc_415, kc_416, kc_417, kc_418, kn_395, kn_396, kn_397, kn_398, kn_399, kn_400, kn_401, kn_402, kn_403, kn_404, kn_405, kn_406, kn_407, kn_408, kn_409, kn_410, kn_411, kn_412, kn_413, kn_414, kn_415, kn_417, kn_418, hS.2.1, (stA_O ha).1, e2, or_nI, c_isFree W hp hP hS.1 hkn (H ||| h), sk_0]
        cases c3 : afb P k (H ||| h)
        · rw [if_pos rfl]
          refine nxt s T hR (skip ?_) (Fr_r _ _)
          unfold opn
          rw [show (H ||| h) ||| 0 = H ||| h from Nat.or_zero _, c3]
          simp
        · rw [if_neg (by decide)]
          have ho : opn P H w 0 k h = true := by
            unfold opn
            rw [show (H ||| h) ||| 0 = H ||| h from Nat.or_zero _, c3, c2.1, c2.2]
            rfl
          obtain ⟨s2, a1, a2, a3⟩ := c_spreadsBy (N := N) (st := st) W hE hp hP hS hF hkn hh hw c2.2 hR hT
          simp (decide := true) only [Option.bind_some, cS_inl, cS_inr, gI_k, gR_k, pI_k, pR_k, cV_k, aI_k, tI_k, rZ_0, rZ_1, rZ_i, aR_24, aR_27, rf_3_6, rf_6_4, rf_6_9, rf_6_10, rf_6_11, rf_6_12, rf_6_5, rf_6_6, rf_6_7, Nat.reduceAdd, kc_394, kc_395, kc_396, kc_397, kc_398, kc_399, kc_400, kc_401, kc_402, kc_403, kc_404, kc_405, kc_406, kc_407, kc_408, kc_409, kc_410, kc_411, kc_412, kc_413, kc_414, kc_415, kc_416, kc_417, kc_418, kn_395, kn_396, kn_397, kn_398, kn_399, kn_400, kn_401, kn_402, kn_403, kn_404, kn_405, kn_406, kn_407, kn_408, kn_409, kn_410, kn_411, kn_412, kn_413, kn_414, kn_415, kn_417, kn_418, a1]
          refine nxt s2 _ a2 ?_ a3
          unfold tSt
          rw [if_pos ho]
      · rw [if_pos (by rw [bit_nz _ _ (by omega)]; simpa using c2)]
        refine nxt s T hR (skip ?_) (Fr_r _ _)
        rw [anN_tb hw8] at c2
        unfold opn
        cases q1 : w.testBit k
        · simp
        · cases q2 : h.testBit k
          · rw [q1, q2] at c2; exact absurd rfl c2
          · simp
theorem c_spr44 (hN : 1000 ≤ N) (W : Wp P n D mv) (hE : E ≤ 480) (hp : plA p) (ha : stA a) (hH : st 2 = nI H) (hw : w < 2 ^ n) : ∀ (f h : Nat) (s : sg) (T : Nat → Nat), 256 - h < f → h ≤ 256 → CPl s p P n D mv → SAt s a st K → SvP s p a E K → FcR s P st K E n → Rel s w mv h T → Tok T → Nvr w T → ∃ s', lX6_spreads_44 N f 394 (nI w) (nI h) (mk s) = some (.inl (), mk s') ∧ Rel s' w mv 256 (tAl n mv (bhk P st K E) (pls P) (opn P H w 0) (2 ^ n - h) h T) ∧ Nvr w (tAl n mv (bhk P st K E) (pls P) (opn P H w 0) (2 ^ n - h) h T) ∧ Fr (fun x _ => x = 414) s s' := by
  have hn8 := W.1
  have hpO := plA_O hp
  have hp2 := plA_le hp
  have ha2 := stA_le ha
  have hp8 := pn8 hn8
  intro f
  induction f with
  | zero => intro h s T hf; omega
  | succ f ih =>
    intro h s T hf hh hP hs hS hF hR hT hV
    show ∃ s', bX6_spreads_44 N (lX6_spreads_44 N f) 394 (nI w) (nI h) (mk s) = _ ∧ _
    unfold bX6_spreads_44
    by_cases c1 : 256 ≤ h
    · rw [if_pos (show (256 : Int32) ≤ nI h from nI_le (a := 256) c1 (by omega)), show h = 256 by omega, show 2 ^ n - 256 = 0 by omega]
      have e : h = 256 := by omega
      subst e
      exact ⟨s, rfl, hR, hV, Fr_r _ _⟩
    · rw [if_neg (show ¬ (256 : Int32) ≤ nI h from nI_ge (b := 256) (by omega) (by omega)), anN_i (show h < 256 by omega)]
      by_cases c2 : anN h w = 0
      · rw [c2, if_neg (fun q => q rfl)]
        have hlt : h < 2 ^ n := Nat.lt_of_not_le fun q => anN_big hn8 (by omega) q hw c2
        obtain ⟨s1, a1, a2, a3⟩ := c_meet (N := N) W hp hP hS.1 (show h < 256 by omega) c2 hR
        simp (decide := true) only [Option.bind_some, cS_inl, cS_inr, gI_k, gR_k, pI_k, pR_k, cV_k, aI_k, tI_k, rZ_0, rZ_1, rZ_i, aR_24, aR_27, rf_3_6, rf_6_4, rf_6_9, rf_6_10, rf_6_11, rf_6_12, rf_6_5, rf_6_6, rf_6_7, Nat.reduceAdd, kc_394, kc_395, kc_396, kc_397, kc_398, kc_399, kc_400, kc_401, kc_402, kc_403, kc_404, kc_405, kc_406, kc_407, kc_408, kc_409, kc_410, kc_411, kc_412, kc_413, kc_414, kc_415, kc_416, kc_417, kc_418, kn_395, kn_396, kn_397, kn_398, kn_399, kn_400, kn_401, kn_402, kn_403, kn_404, kn_405, kn_406, kn_407, kn_408, kn_409, kn_410, kn_411, kn_412, kn_413, kn_414, kn_415, kn_417, kn_418, a1]
        obtain ⟨s2, b1, b2, b3, b4, b5⟩ := c_spr66 (N := N) (k44 := lX6_spreads_44 N f) hN W hE hp ha hH (by omega) (show h < 256 by omega) c2 N 0 s1 T (by omega) (by omega) (CPl_fr hP hn8 a3 (by intros; omega)) (SAt_fr hs a3 (by intros; omega)) (SvP_fr hS a3 (by intros; omega) (by intros; omega)) (fun k' hk' m hm => by rw [a3.1 _ _ (by omega)]; exact hF k' hk' m hm) a2 hT hV
        have f2 := Fr_t a3 b5
        obtain ⟨s3, d1, d2, d3, d4⟩ := ih (h + 1) s2 _ (by omega) (by omega) (CPl_fr hP hn8 f2 (by intros; omega)) (SAt_fr hs f2 (by intros; omega)) (SvP_fr hS f2 (by intros; omega) (by intros; omega)) (fun k' hk' m hm => by rw [f2.1 _ _ (by omega)]; exact hF k' hk' m hm) b2 b3 b4
        obtain ⟨g, hg⟩ : ∃ g, 2 ^ n - h = g + 1 := ⟨2 ^ n - h - 1, by omega⟩
        rw [show 2 ^ n - (h + 1) = g by omega, show n - 0 = n by omega] at d2 d3
        rw [hg]
        exact ⟨s3, b1.trans d1, d2, d3, Fr_t f2 d4⟩
      · rw [if_pos (fun q => c2 (by have := (nI_eq (b := 0) (by have := anN_le h w; omega) (by omega)).mp q; exact this))]
        unfold bX6_spreads_118
        rw [nI_1]
        have hR2 : Rel s w mv (h + 1) T := fun S q hS2 hq => by
          obtain ⟨c, e2, r2⟩ := hR S q hS2 hq
          refine ⟨c, e2, ?_⟩
          by_cases g : S < h ∧ anN S w = 0
          · rw [if_pos g] at r2
            rw [if_pos ⟨by omega, g.2⟩]; exact r2
          · rw [if_neg g] at r2
            rw [if_neg (fun g2 => g ⟨by
              have : S ≠ h := fun e => c2 (by rw [← e]; exact g2.2)
              omega, g2.2⟩)]; exact r2
        obtain ⟨s3, d1, d2, d3, d4⟩ := ih (h + 1) s T (by omega) (by omega) hP hs hS hF hR2 hT hV
        refine ⟨s3, d1, ?_, ?_, d4⟩
        · by_cases c3 : h < 2 ^ n
          · obtain ⟨g, hg⟩ : ∃ g, 2 ^ n - h = g + 1 := ⟨2 ^ n - h - 1, by omega⟩
            rw [show 2 ^ n - (h + 1) = g by omega] at d2
            rw [hg]
            show Rel s3 w mv 256 (tAl n mv _ _ _ g (h + 1) (tRw mv _ _ _ h n 0 T))
            rw [tRw_same W hV hT (by omega) hE c2 n 0 (by omega)]
            exact d2
          · rw [show 2 ^ n - (h + 1) = 0 by omega] at d2
            rw [show 2 ^ n - h = 0 by omega]
            exact d2
        · by_cases c3 : h < 2 ^ n
          · obtain ⟨g, hg⟩ : ∃ g, 2 ^ n - h = g + 1 := ⟨2 ^ n - h - 1, by omega⟩
            rw [show 2 ^ n - (h + 1) = g by omega] at d3
            rw [hg]
            show Nvr w (tAl n mv _ _ _ g (h + 1) (tRw mv _ _ _ h n 0 T))
            rw [tRw_same W hV hT (by omega) hE c2 n 0 (by omega)]
            exact d3
          · rw [show 2 ^ n - (h + 1) = 0 by omega] at d3
            rw [show 2 ^ n - h = 0 by omega]
            exact d3
theorem c_spr2 (hN : 1000 ≤ N) (W : Wp P n D mv) (hE : E ≤ 480) (hp : plA p) (ha : stA a) (hH : st 2 = nI H) (hw : w < 2 ^ n) {i0 : Nat} (hi0 : i0 ≤ 1) (hm : m ≤ E) (h0 : st 0 = nI m) (h1 : st 1 = nI i0) : ∀ (f i : Nat) (s : sg), 512 - i < f → i ≤ 512 → CPl s p P n D mv → SAt s a st K → SvP s p a E K → FcR s P st K E n → (∀ j, j < i → s.1 414 j = 1000000) → ∃ s', lX6_spreads_2 N f 394 (nI w) (nI i) (mk s) = some (.inl (), mk s') ∧ Rel s' w mv 256 (tFin n mv (bhk P st K E) (pls P) (opn P H w 0) m i0) ∧ Nvr w (tFin n mv (bhk P st K E) (pls P) (opn P H w 0) m i0) ∧ Fr (fun x _ => x = 414) s s' := by
  have hn8 := W.1
  have hp2 := plA_le hp
  have ha2 := stA_le ha
  intro f
  induction f with
  | zero => intro h s hf; omega
  | succ f ih =>
    intro i s hf hi hP hs hS hF hZ
    show ∃ s', bX6_spreads_2 N (lX6_spreads_2 N f) 394 (nI w) (nI i) (mk s) = _ ∧ _
    unfold bX6_spreads_2
    by_cases c1 : 512 ≤ i
    · rw [if_pos (show (512 : Int32) ≤ nI i from nI_le (a := 512) c1 (by omega))]
      unfold bX6_spreads_23
      have e0 : s.1 a 0 = nI m := hs.1.trans h0
      have e1 : s.1 a 1 = nI i0 := hs.2.1.trans h1
      have i1 : inB (nI i0) 512 = true := inA_nI (by omega) (by omega)
      simp (decide := true) only [Option.bind_some, cS_inl, cS_inr, gI_k, gR_k, pI_k, pR_k, cV_k, aI_k, tI_k, rZ_0, rZ_1, rZ_i, aR_24, aR_27, rf_3_6, rf_6_4, rf_6_9, rf_6_10, rf_6_11, rf_6_12, rf_6_5, rf_6_6, rf_6_7, Nat.reduceAdd, kc_394, kc_395, kc_396, kc_397, kc_398, kc_399, kc_400, kc_401, kc_402, kc_403, kc_404, kc_405, kc_406, kc_407, kc_408, kc_409, kc_410, kc_411, kc_412, kc_413, kc_414, kc_415, kc_416, kc_417, kc_418, kn_395, kn_396, kn_397, kn_398, kn_399, kn_400, kn_401, kn_402, kn_403, kn_404, kn_405, kn_406, kn_407, kn_408, kn_409, kn_410, kn_411, kn_412, kn_413, kn_414, kn_415, kn_417, kn_418, hS.2.1, (stA_O ha).1, e0, e1, i1, nI_clamp (show i0 < 2 ^ 31 by omega)]
      have f1 : Fr (fun x _ => x = 414) s (sI s 414 i0 (nI m)) := Fr_sI rfl
      have hR : Rel (sI s 414 i0 (nI m)) w mv 0 (tT0 m i0) := fun S q hS2 hq => by
        by_cases e : 2 * S + q = i0
        · refine ⟨m, ?_, ?_⟩
          · rw [sI_1, if_pos ⟨rfl, e⟩]
          · rw [if_neg (by omega)]
            unfold tT0
            rw [if_pos e]
            exact Or.inl ⟨by omega, rfl⟩
        · refine ⟨1000000, ?_, ?_⟩
          · rw [sI_1, if_neg (fun g => e g.2), hZ _ (by omega)]
            rfl
          · rw [if_neg (by omega)]
            unfold tT0
            rw [if_neg e]
            exact Or.inr ⟨rfl, rfl⟩
      obtain ⟨s', b1, b2, b3, b4⟩ := c_spr44 (N := N) hN W hE hp ha hH hw N 0 (sI s 414 i0 (nI m)) (tT0 m i0) (by omega) (by omega) (CPl_fr hP hn8 f1 (by intros; omega)) (SAt_fr hs f1 (by intros; omega)) (SvP_fr hS f1 (by intros; omega) (by intros; omega)) (fun k' hk' m hm => by rw [f1.1 _ _ (by omega)]; exact hF k' hk' m hm) hR (fun j => by
        unfold tT0
        by_cases e : j = i0
        · rw [if_pos e]; omega
        · rw [if_neg e]; omega) (fun S q hS2 hq hne => by
        unfold tT0
        refine if_neg (fun e => hne ?_)
        rw [show S = 0 by omega]
        unfold anN
        exact Nat.zero_and _)
      exact ⟨s', b1, b2, b3, Fr_t f1 b4⟩
    · rw [if_neg (show ¬ (512 : Int32) ≤ nI i from nI_ge (b := 512) (by omega) (by omega))]
      have i1 : inB (nI i) 512 = true := inA_nI (by omega) (by omega)
      simp (decide := true) only [Option.bind_some, cS_inl, cS_inr, gI_k, gR_k, pI_k, pR_k, cV_k, aI_k, tI_k, rZ_0, rZ_1, rZ_i, aR_24, aR_27, rf_3_6, rf_6_4, rf_6_9, rf_6_10, rf_6_11, rf_6_12, rf_6_5, rf_6_6, rf_6_7, Nat.reduceAdd, kc_394, kc_395, kc_396, kc_397, kc_398, kc_399, kc_400, kc_401, kc_402, kc_403, kc_404, kc_405, kc_406, kc_407, kc_408, kc_409, kc_410, kc_411, kc_412, kc_413, kc_414, kc_415, kc_416, kc_417, kc_418, kn_395, kn_396, kn_397, kn_398, kn_399, kn_400, kn_401, kn_402, kn_403, kn_404, kn_405, kn_406, kn_407, kn_408, kn_409, kn_410, kn_411, kn_412, kn_413, kn_414, kn_415, kn_417, kn_418, i1, nI_clamp (show i < 2 ^ 31 by omega), nI_1]
      have f1 : Fr (fun x _ => x = 414) s (sI s 414 i 1000000) := Fr_sI rfl
      obtain ⟨s', b1, b2, b3, b4⟩ := ih (i + 1) (sI s 414 i 1000000) (by omega) (by omega) (CPl_fr hP hn8 f1 (by intros; omega)) (SAt_fr hs f1 (by intros; omega)) (SvP_fr hS f1 (by intros; omega) (by intros; omega)) (fun k' hk' m hm => by rw [f1.1 _ _ (by omega)]; exact hF k' hk' m hm) (fun j hj => by
        rw [sI_1]
        by_cases e : j = i
        · rw [if_pos ⟨rfl, e⟩]
        · rw [if_neg (fun q => e q.2)]; exact hZ j (by omega))
      exact ⟨s', b1, b2, b3, Fr_t f1 b4⟩
/-- the class's cells hold the table T of the sets of w -/
def CTab (s : sg) (w mv : Nat) (T : Nat → Nat) : Prop := Rel s w mv 256 T ∧ Nvr w T ∧ Tok T
theorem c_spreads (hN1 : 1000 ≤ N) (W : Wp P n D mv) (Z : Ws st n D) (hE : E ≤ 480) (hm : nowN st ≤ E) (hp : plA p) (ha : stA a) (hw : w < 2 ^ n) (hP : CPl s p P n D mv) (hs : SAt s a st K) (hS : SvP s p a E K) (hF : FcR s P st K E n) : ∃ s', fX6_spreads N 394 (nI w) (mk s) = some (.inl (), mk s') ∧ CTab s' w mv (tFin n mv (bhk P st K E) (pls P) (opn P (hN st) w 0) (nowN st) (inN st)) ∧ Fr (fun x _ => x = 414) s s' := by
  obtain ⟨⟨h0, h0'⟩, ⟨h1, h1'⟩, ⟨h2, h2'⟩⟩ := Ws_n Z W.1 W.2.2.2.1
  obtain ⟨s', b1, b2, b3, b4⟩ := c_spr2 (N := N) hN1 W hE hp ha h2 hw h1' hm h0 h1 N 0 s (by omega) (by omega) hP hs hS hF (fun j hj => by omega)
  refine ⟨s', b1, ⟨b2, b3, fun j => ?_⟩, b4⟩
  rcases (tFin_tab (bhk_okB (st := st) (K := K) W hE (hN st) w 0) h1' hm).2.2.2.2 j with q | q
  · left; omega
  · right; exact q
theorem c_endOf {S : Nat} (hS2 : S < 256) (hE : E ≤ 480) (h8 : s.1 394 8 = nI E) (hmv : mv ≤ 120) (hT : CTab s w mv T) (hTE : ∀ j, T j ≤ E ∨ T j = 100000) : fX6_endOf N 394 (nI S) (mk s) = some (.inl (if sn T S < 100000 then nI (sn T S) else -1), mk s) := by
  obtain ⟨c0, e0, r0⟩ := hT.1 S 0 hS2 (by omega)
  obtain ⟨c1, e1, r1⟩ := hT.1 S 1 hS2 (by omega)
  have x0 := ixm S 0
  have x1 := ixm S 1
  rw [nI0] at x0
  rw [show nI 1 = (1 : Int32) from rfl] at x1
  have q0 := ix2 (q := 0) hS2 (by omega)
  have q1 := ix2 (q := 1) hS2 (by omega)
  have key : (sn T S < 100000 ∧ min c0 c1 = sn T S ∧ sn T S ≤ E) ∨ (¬ sn T S < 100000 ∧ 1000000 ≤ min c0 c1 ∧ min c0 c1 ≤ 1000300) := by
    have t0 := hTE (2 * S + 0)
    have t1 := hTE (2 * S + 1)
    unfold sn
    simp only [Nat.add_zero] at *
    by_cases g : S < 256 ∧ anN S w = 0
    · rw [if_pos g] at r0 r1
      unfold rl2 at r0 r1
      simp only [Nat.sub_zero, Nat.sub_self, Nat.add_zero] at r0 r1
      omega
    · rw [if_neg g] at r0 r1
      unfold rl1 at r0 r1
      omega
  unfold fX6_endOf bX6_endOf_0
  simp (decide := true) only [Option.bind_some, cS_inl, cS_inr, gI_k, gR_k, pI_k, pR_k, cV_k, aI_k, tI_k, rZ_0, rZ_1, rZ_i, aR_24, aR_27, rf_3_6, rf_6_4, rf_6_9, rf_6_10, rf_6_11, rf_6_12, rf_6_5, rf_6_6, rf_6_7, Nat.reduceAdd, kc_394, kc_395, kc_396, kc_397, kc_398, kc_399, kc_400, kc_401, kc_402, kc_403, kc_404, kc_405, kc_406, kc_407, kc_408, kc_409, kc_410, kc_411, kc_412, kc_413, kc_414, kc_415, kc_416, kc_417, kc_418, kn_395, kn_396, kn_397, kn_398, kn_399, kn_400, kn_401, kn_402, kn_403, kn_404, kn_405, kn_406, kn_407, kn_408, kn_409, kn_410, kn_411, kn_412, kn_413, kn_414, kn_415, kn_417, kn_418, x0, x1, q0.1, q0.2, q1.1, q1.2, e0, e1, h8]
  have l0 : c0 ≤ 1000300 := by
    by_cases g : S < 256 ∧ anN S w = 0
    · rw [if_pos g] at r0; exact rl2_lt r0
    · rw [if_neg g] at r0; have := rl1_lt r0; omega
  have l1 : c1 ≤ 1000300 := by
    by_cases g : S < 256 ∧ anN S w = 0
    · rw [if_pos g] at r1; exact rl2_lt r1
    · rw [if_neg g] at r1; have := rl1_lt r1; omega
  rw [mn_nI (by omega) (by omega)]
  rcases key with ⟨k1, k2, k3⟩ | ⟨k1, k2, k3⟩
  · rw [if_pos k1, k2, if_pos (nI_le k3 (by omega))]
  · rw [if_neg k1, if_neg (nI_ge (by omega) (by omega))]
theorem j_bits : ∀ v, v < 256 → ∀ (N : Nat) (c : mm_C), fJ6_bitCount_0f7a4 N (nI v) c = some (.inl (nI (pcf v)), c) := by
  have h : ∀ v, v < 256 → ((fJ6_bitCount_0f7a4 0 (nI v) (fun _ => none)).map fun q => match q.1 with | .inl x => x | .inr _ => -1) = some (nI (pcf v)) := by decide +kernel
  intro v hv N c
  have := h v hv
  unfold fJ6_bitCount_0f7a4 bJ6_bitCount_0f7a4_0 at this ⊢
  simp only [Option.map_some] at this
  have e := Option.some.inj this
  rw [e]
/-- picksMost, once the set 0 has been looked at: the best is b -/
def Pk (s : sg) (T : Nat → Nat) (b : Nat) : Prop := s.1 394 1 = nI (pcf b) ∧ s.1 394 2 = nI (sn T b) ∧ s.1 394 3 = nI b
theorem c_pick7 (W : Wp P n D mv) (hE : E ≤ 480) (hw : w < 2 ^ n) (hTE : ∀ j, T j ≤ E ∨ T j = 100000) : ∀ (f i b : Nat) (s : sg), 256 - i < f → i ≤ 256 → 1 ≤ i → b < 256 → sn T b < 100000 → s.1 394 8 = nI E → CTab s w mv T → Pk s T b → ∃ s', lX6_picksMost_7 N f 394 (nI i) (mk s) = some (.inl (), mk s') ∧ Pk s' T (mst T (2 ^ n - i) i b) ∧ Fr (fun x j => x = 394 ∧ 1 ≤ j ∧ j ≤ 3) s s' := by
  have hn8 := W.1
  have hp8 := pn8 hn8
  have hmv := W.2.2.2.2.2.1
  intro f
  induction f with
  | zero => intro i b s hf; omega
  | succ f ih =>
    intro i b s hf hi hi1 hb hbn h8 hT hK
    show ∃ s', bX6_picksMost_7 N (lX6_picksMost_7 N f) 394 (nI i) (mk s) = _ ∧ _
    unfold bX6_picksMost_7
    by_cases c1 : 256 ≤ i
    · rw [if_pos (show (256 : Int32) ≤ nI i from nI_le (a := 256) c1 (by omega)), show 2 ^ n - i = 0 by omega]
      exact ⟨s, rfl, hK, Fr_r _ _⟩
    · rw [if_neg (show ¬ (256 : Int32) ≤ nI i from nI_ge (b := 256) (by omega) (by omega))]
      simp (decide := true) only [Option.bind_some, cS_inl, cS_inr, gI_k, gR_k, pI_k, pR_k, cV_k, aI_k, tI_k, rZ_0, rZ_1, rZ_i, aR_24, aR_27, rf_3_6, rf_6_4, rf_6_9, rf_6_10, rf_6_11, rf_6_12, rf_6_5, rf_6_6, rf_6_7, Nat.reduceAdd, kc_394, kc_395, kc_396, kc_397, kc_398, kc_399, kc_400, kc_401, kc_402, kc_403, kc_404, kc_405, kc_406, kc_407, kc_408, kc_409, kc_410, kc_411, kc_412, kc_413, kc_414, kc_415, kc_416, kc_417, kc_418, kn_395, kn_396, kn_397, kn_398, kn_399, kn_400, kn_401, kn_402, kn_403, kn_404, kn_405, kn_406, kn_407, kn_408, kn_409, kn_410, kn_411, kn_412, kn_413, kn_414, kn_415, kn_417, kn_418, c_endOf (show i < 256 by omega) hE h8 hmv hT hTE, j_bits i (by omega)]
      have sl : sn T i ≤ 100000 := by
        have := hTE (2 * i)
        unfold sn
        omega
      have p1 := pcf_8 i
      have p2 := pcf_8 b
      have stay : (¬ (sn T i < 100000 ∧ (pcf b < pcf i ∨ (pcf i = pcf b ∧ sn T i < sn T b)))) → ∃ s', bX6_picksMost_69 N (lX6_picksMost_7 N f) 394 (nI i) (mk s) = some (.inl (), mk s') ∧ Pk s' T (mst T (2 ^ n - i) i b) ∧ Fr (fun x j => x = 394 ∧ 1 ≤ j ∧ j ≤ 3) s s' := by
        intro hno
        unfold bX6_picksMost_69
        rw [nI_1]
        obtain ⟨s', b1, b2, b3⟩ := ih (i + 1) b s (by omega) (by omega) (by omega) hb hbn h8 hT hK
        refine ⟨s', b1, ?_, b3⟩
        by_cases c3 : i < 2 ^ n
        · obtain ⟨g, hg⟩ : ∃ g, 2 ^ n - i = g + 1 := ⟨2 ^ n - i - 1, by omega⟩
          rw [show 2 ^ n - (i + 1) = g by omega] at b2
          rw [hg, mst_s, if_neg hno]; exact b2
        · rw [show 2 ^ n - (i + 1) = 0 by omega] at b2
          rw [show 2 ^ n - i = 0 by omega]; exact b2
      have go : (sn T i < 100000 ∧ (pcf b < pcf i ∨ (pcf i = pcf b ∧ sn T i < sn T b))) → ∃ s', bX6_picksMost_54 N (lX6_picksMost_7 N f) 394 (nI i) (nI (sn T i)) (nI (pcf i)) (mk s) = some (.inl (), mk s') ∧ Pk s' T (mst T (2 ^ n - i) i b) ∧ Fr (fun x j => x = 394 ∧ 1 ≤ j ∧ j ≤ 3) s s' := by
        intro hyes
        have hlt : i < 2 ^ n := Nat.lt_of_not_le fun q => by
          have h1 := hT.2.1 i 0 (by omega) (by omega) (anN_big hn8 (by omega) q hw)
          have h2 := hT.2.1 i 1 (by omega) (by omega) (anN_big hn8 (by omega) q hw)
          have := hyes.1
          unfold sn at this
          simp only [Nat.add_zero] at h1
          omega
        unfold bX6_picksMost_54 bX6_picksMost_69
        simp (decide := true) only [Option.bind_some, cS_inl, cS_inr, gI_k, gR_k, pI_k, pR_k, cV_k, aI_k, tI_k, rZ_0, rZ_1, rZ_i, aR_24, aR_27, rf_3_6, rf_6_4, rf_6_9, rf_6_10, rf_6_11, rf_6_12, rf_6_5, rf_6_6, rf_6_7, Nat.reduceAdd, kc_394, kc_395, kc_396, kc_397, kc_398, kc_399, kc_400, kc_401, kc_402, kc_403, kc_404, kc_405, kc_406, kc_407, kc_408, kc_409, kc_410, kc_411, kc_412, kc_413, kc_414, kc_415, kc_416, kc_417, kc_418, kn_395, kn_396, kn_397, kn_398, kn_399, kn_400, kn_401, kn_402, kn_403, kn_404, kn_405, kn_406, kn_407, kn_408, kn_409, kn_410, kn_411, kn_412, kn_413, kn_414, kn_415, kn_417, kn_418, nI_1]
        have f1 : Fr (fun x j => x = 394 ∧ 1 ≤ j ∧ j ≤ 3) s (sI (sI (sI s 394 1 (nI (pcf i))) 394 2 (nI (sn T i))) 394 3 (nI i)) := Fr_t (Fr_t (Fr_sI (by omega)) (Fr_sI (by omega))) (Fr_sI (by omega))
        have hT2 : CTab (sI (sI (sI s 394 1 (nI (pcf i))) 394 2 (nI (sn T i))) 394 3 (nI i)) w mv T := ⟨fun S q h1 h2 => by
          rw [f1.1 _ _ (by omega)]; exact hT.1 S q h1 h2, hT.2⟩
        obtain ⟨s', b1, b2, b3⟩ := ih (i + 1) i _ (by omega) (by omega) (by omega) (by omega) hyes.1 (by rw [f1.1 _ _ (by omega)]; exact h8) hT2 ⟨by simp [sI_c], by simp [sI_c], by simp [sI_c]⟩
        refine ⟨s', b1, ?_, Fr_t f1 b3⟩
        obtain ⟨g, hg⟩ : ∃ g, 2 ^ n - i = g + 1 := ⟨2 ^ n - i - 1, by omega⟩
        rw [show 2 ^ n - (i + 1) = g by omega] at b2
        rw [hg, mst_s, if_pos hyes]; exact b2
      obtain ⟨k1, k2, k3⟩ := hK
      by_cases c2 : sn T i < 100000
      · rw [if_pos c2]
        have hne : ¬ nI (sn T i) = -1 := fun q => by
          have := congrArg Int32.toInt q
          rw [nI_toInt (by omega)] at this
          have e : (-1 : Int32).toInt = -1 := by decide
          omega
        rw [if_neg hne]
        simp (decide := true) only [Option.bind_some, cS_inl, cS_inr, gI_k, gR_k, pI_k, pR_k, cV_k, aI_k, tI_k, rZ_0, rZ_1, rZ_i, aR_24, aR_27, rf_3_6, rf_6_4, rf_6_9, rf_6_10, rf_6_11, rf_6_12, rf_6_5, rf_6_6, rf_6_7, Nat.reduceAdd, kc_394, kc_395, kc_396, kc_397, kc_398, kc_399, kc_400, kc_401, kc_402, kc_403, kc_404, kc_405, kc_406, kc_407, kc_408, kc_409, kc_410, kc_411, kc_412, kc_413, kc_414, kc_415, kc_416, kc_417, kc_418, kn_395, kn_396, kn_397, kn_398, kn_399, kn_400, kn_401, kn_402, kn_403, kn_404, kn_405, kn_406, kn_407, kn_408, kn_409, kn_410, kn_411, kn_412, kn_413, kn_414, kn_415, kn_417, kn_418, k1, k2]
        by_cases c3 : pcf b < pcf i
        · rw [if_pos (nI_lt c3 (by omega))]
          exact go ⟨c2, Or.inl c3⟩
        · rw [if_neg (nI_nlt (by omega) (by omega))]
          by_cases c4 : pcf i = pcf b
          · rw [if_neg (fun q => q (by rw [c4]))]
            by_cases c5 : sn T b ≤ sn T i
            · rw [if_pos (nI_le c5 (by omega))]
              exact stay (by omega)
            · rw [if_neg (nI_ge (by omega) (by omega))]
              exact go ⟨c2, Or.inr ⟨c4, by omega⟩⟩
          · rw [if_pos (fun q => c4 ((nI_eq (by omega) (by omega)).mp q))]
            exact stay (by omega)
      · rw [if_neg c2, if_pos rfl]
        exact stay (by omega)
theorem c_picksMost (hN : 1000 ≤ N) (W : Wp P n D mv) (hE : E ≤ 480) (hw : w < 2 ^ n) (hTE : ∀ j, T j ≤ E ∨ T j = 100000) (h0 : sn T 0 < 100000) (h8 : s.1 394 8 = nI E) (hT : CTab s w mv T) : ∃ s', fX6_picksMost N 394 (mk s) = some (.inl (), mk s') ∧ Pk s' T (MS n T) ∧ Fr (fun x j => x = 394 ∧ 1 ≤ j ∧ j ≤ 3) s s' := by
  have hn8 := W.1
  have hp8 := pn8 hn8
  have hmv := W.2.2.2.2.2.1
  obtain ⟨M, hM⟩ : ∃ M, N = M + 1 := ⟨N - 1, by omega⟩
  have f0 : Fr (fun x j => x = 394 ∧ 1 ≤ j ∧ j ≤ 3) s (sI s 394 1 (-1)) := Fr_sI (by omega)
  have hT0 : CTab (sI s 394 1 (-1)) w mv T := ⟨fun S q h1 h2 => by rw [f0.1 _ _ (by omega)]; exact hT.1 S q h1 h2, hT.2⟩
  have f1 : Fr (fun x j => x = 394 ∧ 1 ≤ j ∧ j ≤ 3) s (sI (sI (sI (sI s 394 1 (-1)) 394 1 (nI (pcf 0))) 394 2 (nI (sn T 0))) 394 3 (nI 0)) := Fr_t (Fr_t (Fr_t f0 (Fr_sI (by omega))) (Fr_sI (by omega))) (Fr_sI (by omega))
  have hT1 : CTab (sI (sI (sI (sI s 394 1 (-1)) 394 1 (nI (pcf 0))) 394 2 (nI (sn T 0))) 394 3 (nI 0)) w mv T := ⟨fun S q h1 h2 => by rw [f1.1 _ _ (by omega)]; exact hT.1 S q h1 h2, hT.2⟩
  obtain ⟨s', b1, b2, b3⟩ := c_pick7 (N := N) W hE hw hTE M 1 0 _ (by omega) (by omega) (by omega) (by omega) h0 (by rw [f1.1 _ _ (by omega)]; exact h8) hT1 ⟨by simp [sI_c], by simp [sI_c], by simp [sI_c]⟩
  refine ⟨s', ?_, b2, Fr_t f1 b3⟩
  unfold fX6_picksMost bX6_picksMost_0
  simp (decide := true) only [Option.bind_some, cS_inl, cS_inr, gI_k, gR_k, pI_k, pR_k, cV_k, aI_k, tI_k, rZ_0, rZ_1, rZ_i, aR_24, aR_27, rf_3_6, rf_6_4, rf_6_9, rf_6_10, rf_6_11, rf_6_12, rf_6_5, rf_6_6, rf_6_7, Nat.reduceAdd, kc_394, kc_395, kc_396, kc_397, kc_398, kc_399, kc_400, kc_401, kc_402, kc_403, kc_404, kc_405, kc_406, kc_407, kc_408, kc_409, kc_410, kc_411, kc_412, kc_413, kc_414, kc_415, kc_416, kc_417, kc_418, kn_395, kn_396, kn_397, kn_398, kn_399, kn_400, kn_401, kn_402, kn_403, kn_404, kn_405, kn_406, kn_407, kn_408, kn_409, kn_410, kn_411, kn_412, kn_413, kn_414, kn_415, kn_417, kn_418]
  have e : lX6_picksMost_7 N N = lX6_picksMost_7 N (M + 1) := by rw [← hM]
  rw [e]
  show bX6_picksMost_7 N (lX6_picksMost_7 N M) 394 (nI 0) (mk (sI s 394 1 (-1))) = _
  unfold bX6_picksMost_7
  have hne : ¬ nI (sn T 0) = -1 := fun q => by
    have := congrArg Int32.toInt q
    rw [nI_toInt (by omega)] at this
    have e : (-1 : Int32).toInt = -1 := by decide
    omega
  rw [if_neg (by decide)]
  simp (decide := true) only [Option.bind_some, cS_inl, cS_inr, gI_k, gR_k, pI_k, pR_k, cV_k, aI_k, tI_k, rZ_0, rZ_1, rZ_i, aR_24, aR_27, rf_3_6, rf_6_4, rf_6_9, rf_6_10, rf_6_11, rf_6_12, rf_6_5, rf_6_6, rf_6_7, Nat.reduceAdd, kc_394, kc_395, kc_396, kc_397, kc_398, kc_399, kc_400, kc_401, kc_402, kc_403, kc_404, kc_405, kc_406, kc_407, kc_408, kc_409, kc_410, kc_411, kc_412, kc_413, kc_414, kc_415, kc_416, kc_417, kc_418, kn_395, kn_396, kn_397, kn_398, kn_399, kn_400, kn_401, kn_402, kn_403, kn_404, kn_405, kn_406, kn_407, kn_408, kn_409, kn_410, kn_411, kn_412, kn_413, kn_414, kn_415, kn_417, kn_418, c_endOf (show 0 < 256 by omega) hE (show (sI s 394 1 (-1)).1 394 8 = nI E by rw [f0.1 _ _ (by omega)]; exact h8) hmv hT0 hTE, j_bits 0 (by omega), if_pos h0, sI_c, hne, if_false, if_true]
  unfold bX6_picksMost_54 bX6_picksMost_69
  simp (decide := true) only [Option.bind_some, cS_inl, cS_inr, gI_k, gR_k, pI_k, pR_k, cV_k, aI_k, tI_k, rZ_0, rZ_1, rZ_i, aR_24, aR_27, rf_3_6, rf_6_4, rf_6_9, rf_6_10, rf_6_11, rf_6_12, rf_6_5, rf_6_6, rf_6_7, Nat.reduceAdd, kc_394, kc_395, kc_396, kc_397, kc_398, kc_399, kc_400, kc_401, kc_402, kc_403, kc_404, kc_405, kc_406, kc_407, kc_408, kc_409, kc_410, kc_411, kc_412, kc_413, kc_414, kc_415, kc_416, kc_417, kc_418, kn_395, kn_396, kn_397, kn_398, kn_399, kn_400, kn_401, kn_402, kn_403, kn_404, kn_405, kn_406, kn_407, kn_408, kn_409, kn_410, kn_411, kn_412, kn_413, kn_414, kn_415, kn_417, kn_418]
  exact b1
end CT
