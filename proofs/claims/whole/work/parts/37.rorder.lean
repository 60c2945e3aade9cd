/- needs: 36.clate -/
/-! the reference: the order, a set, going inside -/
theorem afb_mono {P : pln} {k X Y : Nat} (h : afb P k X = true) (hm : ∀ j, X.testBit j = true → Y.testBit j = true) : afb P k Y = true := by
  unfold afb at *
  simp only [Bool.or_eq_true] at *
  exact h.imp id (hm _)
theorem sn_le (T : Nat → Nat) (S : Nat) {q : Nat} (hq : q ≤ 1) : sn T S ≤ T (2 * S + q) := by
  unfold sn
  rcases (show q = 0 ∨ q = 1 by omega) with rfl | rfl
  · exact Nat.min_le_left _ _
  · exact Nat.min_le_right _ _
section RO
variable {N : Nat} {s : sg} {P : pln} {st : Nat → Int32} {K : Nat → Bool} {E n D mv k m w H al fr goal : Nat} {T : Nat → Nat}
theorem tab_cl {bh : Nat → Nat → Nat} {pl : Nat → Nat} (hb : okB n E mv bh pl (opn P H al fr)) {i : Nat} (hT : Tab n E mv bh pl (opn P H al fr) m i T) : ∀ S q, q ≤ 1 → T (2 * S + q) ≠ 100000 → S < 256 → ∀ k, k < 8 → S.testBit k = true → k < n ∧ al.testBit k = true ∧ afb P k ((H ||| S) ||| fr) = true := by
  intro S
  induction S using Nat.strongRecOn with
  | ind S ih =>
    intro q hq hne hS k hk hbk
    by_cases h0 : S = 0
    · subst h0; rw [Nat.zero_testBit] at hbk; cases hbk
    · obtain ⟨k', h', a1, a2, a3, a4, a5, a6⟩ := hT.2.2.2.1 S q hq h0 hne
      have hkh := hb.2.2.2.2.2.2.2 k' h' a3
      have hgt := or_gt hkh
      rw [← a4] at hgt
      have hmo : ∀ j, ((H ||| h') ||| fr).testBit j = true → ((H ||| S) ||| fr).testBit j = true := fun j => by
        rw [a4]
        simp only [Nat.testBit_or, Bool.or_eq_true]
        rintro ((g | g) | g)
        · exact Or.inl (Or.inl g)
        · exact Or.inl (Or.inr (Or.inl g))
        · exact Or.inr g
      by_cases e : k = k'
      · subst e
        unfold opn at a3
        simp only [Bool.and_eq_true] at a3
        exact ⟨a1, a3.1, afb_mono a3.2.2 hmo⟩
      · have hb2 : h'.testBit k = true := by
          rw [a4, or_tb] at hbk
          simpa [Ne.symm e] using hbk
        have hsome : ∃ q', q' ≤ 1 ∧ T (2 * h' + q') ≠ 100000 := by
          by_cases g1 : T (2 * h' + pl k') = 100000
          · by_cases g2 : T (2 * h' + (1 - pl k')) = 100000
            · exfalso
              apply hne
              rw [a6, g1, g2]
              rcases hb.2.2.2.1 k' (min 100000 (100000 + mv)) a1 with g | g
              · have := hb.2.2.2.2.2.1 k' _ a1 g
                have := hb.2.1
                omega
              · exact g
            · exact ⟨1 - pl k', by omega, g2⟩
          · exact ⟨pl k', hb.2.2.2.2.2.2.1 k', g1⟩
        obtain ⟨q', hq', hn'⟩ := hsome
        obtain ⟨g1, g2, g3⟩ := ih h' hgt q' hq' hn' (by omega) k hk hb2
        exact ⟨g1, g2, afb_mono g3 hmo⟩
/-- a set that is closed: what its shots are after is had, or in it, or free -/
def Cls (P : pln) (H al fr S : Nat) : Prop := ∀ k, k < 8 → S.testBit k = true → al.testBit k = true ∧ afb P k ((H ||| S) ||| fr) = true
theorem frC_op (W : Wp P n D mv) {had rest S : Nat} (hC : Cls P H al fr S) (hd : dj had rest S) (hk : k < n) (hr : rest.testBit k = true) (hH : ∀ j, j < 8 → S.testBit j = true → (H ||| fr).testBit j = false) : opn P H al fr k had = frC P k rest := by
  have hk8 : k < 8 := by have := W.1; omega
  have hS : S.testBit k = true := by rw [(hd.2.2.2 k hk8).1, hr]; simp
  have hhad : had.testBit k = false := by have := (hd.2.2.2 k hk8).2; rw [hr] at this; simpa using this
  obtain ⟨c1, c2⟩ := hC k hk8 hS
  unfold opn frC
  rw [c1, hhad]
  simp only [Bool.not_false, Bool.true_and]
  unfold afb at c2 ⊢
  rcases (W.2.2.2.2.2.2.2 k hk).2.2.2.2 with h3 | ⟨j, hj, h3⟩
  · simp [h3]
  · have hne := m1_ne (show j < 2 ^ 31 by omega)
    rw [h3, nI_clamp (by omega)] at c2 ⊢
    simp only [hne, decide_false, Bool.false_or] at c2 ⊢
    rw [Nat.testBit_two_pow_sub_succ (by have := hd.2.1; omega)]
    have h5 := hd.2.2.2 j hj
    have h6 := hH j hj
    simp only [Nat.testBit_or, Bool.or_eq_true] at c2 h6 ⊢
    have h32 : decide (j < 32) = true := decide_eq_true (by omega)
    rw [h32]
    cases e1 : rest.testBit j <;> cases e2 : had.testBit j <;> cases e3 : H.testBit j <;> cases e4 : fr.testBit j <;> simp_all
theorem r_ends (hN : 1000 ≤ N) (W : Wp P n D mv) (hE : E ≤ 480) (hg : goal ≤ E) (hH : st 2 = nI H) {i0 S : Nat} (hT : Tab n E mv (bhk P st K E) (pls P) (opn P H al 0) m i0 T) (hS : S < 2 ^ n) (hgl : goal = sn T S) (hC : Cls P H al 0 S) (hSH : ∀ j, j < 8 → S.testBit j = true → (H ||| 0).testBit j = false) : ∀ (c rest had q t i : Nat) (s : sg), pcf rest ≤ c → c ≤ 11 → dj had rest S → q ≤ 1 → t ≤ 480 → T (2 * had + q) ≤ t → i + pcf rest ≤ 8 → RV s P st K E → s.1 419 42 = nI al → s.1 419 43 = nI 0 → ∃ s', fX12_endsBy N (c + 1) 419 (nI S) (nI had) (nI t) (nI q) (nI goal) (nI i) (mk s) = some (.inl (sk_i (dfr n mv goal (bhk P st K E) (pls P) (frC P) rest q t).isSome), mk s') ∧ (∀ l, dfr n mv goal (bhk P st K E) (pls P) (frC P) rest q t = some l → ∀ j, j < l.length → s'.1 442 (i + j) = nI (l.getD j 0)) ∧ (∀ j, j < i → s'.1 442 j = s.1 442 j) ∧ Fr (fun a _ => a = 442) s s' := by
  have hn8 := W.1
  have hp8 := pn8 hn8
  have hmv := W.2.2.2.2.2.1
  have hOB := bhk_okB (st := st) (K := K) W hE H al 0
  intro c
  induction c with
  | zero =>
    intro rest had q t i s hc h11 hd hq ht hTt hi hV ha hf
    have h0 : rest = 0 := pcf_z rest hd.2.1 (by omega)
    subst h0
    have e := dj_eq hd
    subst e
    show ∃ s', fg_X12_endsBy N (fX12_endsBy N 0) 419 (nI had) (nI had) (nI t) (nI q) (nI goal) (nI i) (mk s) = _ ∧ _
    have hsn : sn T had ≤ T (2 * had + q) := sn_le T had hq
    refine ⟨s, ?_, fun l hl j hj => ?_, fun j hj => rfl, Fr_r _ _⟩
    · unfold fg_X12_endsBy bX12_endsBy_0
      rw [if_neg (fun h => h rfl), dfr_0]
      by_cases c : t = goal
      · rw [if_neg (fun h => h (by rw [c])), if_pos (by omega)]; rfl
      · rw [if_pos (fun h => c ((nI_eq (by omega) (by omega)).mp h)), if_neg (by omega)]; rfl
    · rw [dfr_0] at hl
      by_cases c : t ≤ goal
      · rw [if_pos c] at hl
        rw [← Option.some.inj hl] at hj
        simp at hj
      · rw [if_neg c] at hl; cases hl
  | succ c ih =>
    intro rest had q t i s hc h11 hd hq ht hTt hi hV ha hf
    show ∃ s', fg_X12_endsBy N (fX12_endsBy N (c + 1)) 419 (nI S) (nI had) (nI t) (nI q) (nI goal) (nI i) (mk s) = _ ∧ _
    by_cases h0 : rest = 0
    · subst h0
      have e := dj_eq hd
      subst e
      have hsn : sn T had ≤ T (2 * had + q) := sn_le T had hq
      refine ⟨s, ?_, fun l hl j hj => ?_, fun j hj => rfl, Fr_r _ _⟩
      · unfold fg_X12_endsBy bX12_endsBy_0
        rw [if_neg (fun h => h rfl), dfr_0]
        by_cases c : t = goal
        · rw [if_neg (fun h => h (by rw [c])), if_pos (by omega)]; rfl
        · rw [if_pos (fun h => c ((nI_eq (by omega) (by omega)).mp h)), if_neg (by omega)]; rfl
      · rw [dfr_0] at hl
        by_cases c : t ≤ goal
        · rw [if_pos c] at hl
          rw [← Option.some.inj hl] at hj
          simp at hj
        · rw [if_neg c] at hl; cases hl
    · have hne : had ≠ S := fun e => by
        subst e
        apply h0
        refine tb_ext hd.2.1 (by omega) (fun j hj => ?_)
        have := hd.2.2.2 j hj
        rw [Nat.zero_testBit]
        cases e1 : had.testBit j <;> cases e2 : rest.testBit j <;> simp_all
      have hhad : had < 2 ^ n := sub_lt hd hS
      unfold fg_X12_endsBy bX12_endsBy_0
      rw [if_pos (fun h => hne ((nI_eq (by omega) (by omega)).mp h)), dfr_s hn8 hd.2.1 h0]
      generalize hG : (fun k => if rest.testBit k = true ∧ frC P k rest = true ∧ bhk P st K E k (tmv mv q (pls P k) t) ≤ goal then (dfr n mv goal (bhk P st K E) (pls P) (frC P) (rest - 2 ^ k) (pls P k) (bhk P st K E k (tmv mv q (pls P k) t))).map (fun l => k :: l) else none) = G
      have loop : ∀ (f k : Nat) (s : sg), n - k < f → k ≤ n → RV s P st K E → s.1 419 42 = nI al → s.1 419 43 = nI 0 → ∃ s', lX12_endsBy_20 N (fX12_endsBy N (c + 1)) f 419 (nI S) (nI had) (nI t) (nI q) (nI goal) (nI i) (nI k) (mk s) = some (.inl (sk_i (pck G (n - k) k).isSome), mk s') ∧ (∀ l, pck G (n - k) k = some l → ∀ j, j < l.length → s'.1 442 (i + j) = nI (l.getD j 0)) ∧ (∀ j, j < i → s'.1 442 j = s.1 442 j) ∧ Fr (fun a _ => a = 442) s s' := by
        intro f
        induction f with
        | zero => intro k s hf; omega
        | succ f ihf =>
          intro k s hfk hk hV ha hf
          show ∃ s', bX12_endsBy_20 N (fX12_endsBy N (c + 1)) (lX12_endsBy_20 N (fX12_endsBy N (c + 1)) f) 419 (nI S) (nI had) (nI t) (nI q) (nI goal) (nI i) (nI k) (mk s) = _ ∧ _
          unfold bX12_endsBy_20
          have e0 : s.1 422 0 = nI n := (hV.1 0 0 (by omega) (by omega)).trans W.2.1
          have e2 : s.1 422 2 = nI mv := (hV.1 0 2 (by omega) (by omega)).trans W.2.2.2.2.2.2.1
          simp (decide := true) only [Option.bind_some, cS_inl, cS_inr, gI_k, gR_k, pI_k, pR_k, cV_k, aI_k, tI_k, rZ_0, rZ_1, rZ_i, rf_12_0, rf_12_1, rf_12_3, rf_12_4, rf_12_5, rf_12_6, rf_12_7, rf_12_8, rf_12_9, rf_12_10, rf_12_11, rf_12_12, rf_12_13, rf_12_14, rf_12_15, rf_12_26, rf_12_27, rf_12_31, rf_12_32, rf_12_33, rf_12_34, rf_12_41, rf_12_44, rf_12_47, rf_12_48, rf_12_49, rf_12_51, rf_12_55, rf_12_56, rf_12_57, rf_12_58, rf_12_59, rf_12_60, Nat.reduceAdd, kc_419, kc_420, kc_421, kc_422, kc_423, kc_424, kc_425, kc_426, kc_427, kc_428, kc_429, kc_430, kc_431, kc_432, kc_433, kc_434, kc_435, kc_436, kc_437, kc_438, kc_439, kc_440, kc_441, kc_442, kc_443, kc_444, kc_445, kc_446, kc_447, kc_448, kc_449, kc_450, kc_451, kc_452, kc_453, kn_420, kn_421, kn_422, kn_423, kn_424, kn_425, kn_426, kn_427, kn_428, kn_429, kn_430, kn_431, kn_432, kn_433, kn_434, kn_435, kn_436, kn_437, kn_438, kn_439, kn_440, kn_441, kn_442, kn_443, kn_444, kn_445, kn_446, kn_447, kn_448, kn_449, kn_450, kn_451, kn_452, kn_453, nc_0, e0]
          by_cases c1 : n ≤ k
          · rw [if_pos (nI_le c1 (by omega)), show n - k = 0 by omega]
            exact ⟨s, rfl, fun l hl => (by cases hl), fun j _ => rfl, Fr_r _ _⟩
          · rw [if_neg (nI_ge (by omega) (by omega))]
            have hkn : k < n := by omega
            obtain ⟨g, hg'⟩ : ∃ g, n - k = g + 1 := ⟨n - k - 1, by omega⟩
            have e1 : s.1 423 k = P 1 k := hV.1 1 k (by omega) (by omega)
            have ik : inB (nI k) 16 = true := inA_nI (by omega) (by omega)
            have hbS : ((nI S >>> (nI k &&& 31)) &&& 1 = 1) ↔ S.testBit k = true := by rw [bit_of _ _ (by omega), bt_nI _ _ (by omega)]
            rw [hg']
            -- the next shot
            have nxt : ∀ s2, G k = none → RV s2 P st K E → s2.1 419 42 = nI al → s2.1 419 43 = nI 0 → (∀ j, j < i → s2.1 442 j = s.1 442 j) → Fr (fun a _ => a = 442) s s2 → ∃ s', bX12_endsBy_140 N (fX12_endsBy N (c + 1)) (lX12_endsBy_20 N (fX12_endsBy N (c + 1)) f) 419 (nI S) (nI had) (nI t) (nI q) (nI goal) (nI i) (nI k) (mk s2) = some (.inl (sk_i (pck G (g + 1) k).isSome), mk s') ∧ (∀ l, pck G (g + 1) k = some l → ∀ j, j < l.length → s'.1 442 (i + j) = nI (l.getD j 0)) ∧ (∀ j, j < i → s'.1 442 j = s.1 442 j) ∧ Fr (fun a _ => a = 442) s s' := by
              intro s2 hGk a1 a2 a3 a4 a5
              unfold bX12_endsBy_140
              rw [nI_1]
              obtain ⟨s', b1, b2, b3, b4⟩ := ihf (k + 1) s2 (by omega) (by omega) a1 a2 a3
              rw [show n - (k + 1) = g by omega] at b1 b2
              rw [pck_s, hGk]
              exact ⟨s', b1, b2, fun j hj => (b3 j hj).trans (a4 j hj), Fr_t a5 b4⟩
            simp (decide := true) only [Option.bind_some, cS_inl, cS_inr, gI_k, gR_k, pI_k, pR_k, cV_k, aI_k, tI_k, rZ_0, rZ_1, rZ_i, rf_12_0, rf_12_1, rf_12_3, rf_12_4, rf_12_5, rf_12_6, rf_12_7, rf_12_8, rf_12_9, rf_12_10, rf_12_11, rf_12_12, rf_12_13, rf_12_14, rf_12_15, rf_12_26, rf_12_27, rf_12_31, rf_12_32, rf_12_33, rf_12_34, rf_12_41, rf_12_44, rf_12_47, rf_12_48, rf_12_49, rf_12_51, rf_12_55, rf_12_56, rf_12_57, rf_12_58, rf_12_59, rf_12_60, Nat.reduceAdd, kc_419, kc_420, kc_421, kc_422, kc_423, kc_424, kc_425, kc_426, kc_427, kc_428, kc_429, kc_430, kc_431, kc_432, kc_433, kc_434, kc_435, kc_436, kc_437, kc_438, kc_439, kc_440, kc_441, kc_442, kc_443, kc_444, kc_445, kc_446, kc_447, kc_448, kc_449, kc_450, kc_451, kc_452, kc_453, kn_420, kn_421, kn_422, kn_423, kn_424, kn_425, kn_426, kn_427, kn_428, kn_429, kn_430, kn_431, kn_432, kn_433, kn_434, kn_435, kn_436, kn_437, kn_438, kn_439, kn_440, kn_441, kn_442, kn_443, kn_444, kn_445, kn_446, kn_447, kn_448, kn_449, kn_450, kn_451, kn_452, kn_453, m_isOf, sb_eq0, hbS]
            by_cases c2 : rest.testBit k = true
            · have hSk : S.testBit k = true := by rw [(hd.2.2.2 k (by omega)).1, c2]; simp
              rw [if_neg (fun h => h hSk)]
              simp (decide := true) only [Option.bind_some, cS_inl, cS_inr, gI_k, gR_k, pI_k, pR_k, cV_k, aI_k, tI_k, rZ_0, rZ_1, rZ_i, rf_12_0, rf_12_1, rf_12_3, rf_12_4, rf_12_5, rf_12_6, rf_12_7, rf_12_8, rf_12_9, rf_12_10, rf_12_11, rf_12_12, rf_12_13, rf_12_14, rf_12_15, rf_12_26, rf_12_27, rf_12_31, rf_12_32, rf_12_33, rf_12_34, rf_12_41, rf_12_44, rf_12_47, rf_12_48, rf_12_49, rf_12_51, rf_12_55, rf_12_56, rf_12_57, rf_12_58, rf_12_59, rf_12_60, Nat.reduceAdd, kc_419, kc_420, kc_421, kc_422, kc_423, kc_424, kc_425, kc_426, kc_427, kc_428, kc_429, kc_430, kc_431, kc_432, kc_433, kc_434, kc_435, kc_436, kc_437, kc_438, kc_439, kc_440, kc_441, kc_442, kc_443, kc_444, kc_445, kc_446, kc_447, kc_448, kc_449, kc_450, kc_451, kc_452, kc_453, kn_420, kn_421, kn_422, kn_423, kn_424, kn_425, kn_426, kn_427, kn_428, kn_429, kn_430, kn_431, kn_432, kn_433, kn_434, kn_435, kn_436, kn_437, kn_438, kn_439, kn_440, kn_441, kn_442, kn_443, kn_444, kn_445, kn_446, kn_447, kn_448, kn_449, kn_450, kn_451, kn_452, kn_453, r_isOpen W hV hkn hH ha hf had, sk_0]
              rw [frC_op W hC hd hkn c2 hSH]
              cases c3 : frC P k rest
              · rw [if_neg (fun h => h rfl)]
                exact nxt s (by rw [← hG]; simp [c3]) hV ha hf (fun _ _ => rfl) (Fr_r _ _)
              · rw [if_pos (by decide)]
                simp (decide := true) only [Option.bind_some, cS_inl, cS_inr, gI_k, gR_k, pI_k, pR_k, cV_k, aI_k, tI_k, rZ_0, rZ_1, rZ_i, rf_12_0, rf_12_1, rf_12_3, rf_12_4, rf_12_5, rf_12_6, rf_12_7, rf_12_8, rf_12_9, rf_12_10, rf_12_11, rf_12_12, rf_12_13, rf_12_14, rf_12_15, rf_12_26, rf_12_27, rf_12_31, rf_12_32, rf_12_33, rf_12_34, rf_12_41, rf_12_44, rf_12_47, rf_12_48, rf_12_49, rf_12_51, rf_12_55, rf_12_56, rf_12_57, rf_12_58, rf_12_59, rf_12_60, Nat.reduceAdd, kc_419, kc_420, kc_421, kc_422, kc_423, kc_424, kc_425, kc_426, kc_427, kc_428, kc_429, kc_430, kc_431, kc_432, kc_433, kc_434, kc_435, kc_436, kc_437, kc_438, kc_439, kc_440, kc_441, kc_442, kc_443, kc_444, kc_445, kc_446, kc_447, kc_448, kc_449, kc_450, kc_451, kc_452, kc_453, kn_420, kn_421, kn_422, kn_423, kn_424, kn_425, kn_426, kn_427, kn_428, kn_429, kn_430, kn_431, kn_432, kn_433, kn_434, kn_435, kn_436, kn_437, kn_438, kn_439, kn_440, kn_441, kn_442, kn_443, kn_444, kn_445, kn_446, kn_447, kn_448, kn_449, kn_450, kn_451, kn_452, kn_453, ik, nI_clamp (show k < 2 ^ 31 by omega), e1]
                have hpl := pls_le (P := P) k
                have htm : tmv mv q (pls P k) t ≤ 600 := by unfold tmv; split <;> omega
                have ho : opn P H al 0 k had = true := (frC_op W hC hd hkn c2 hSH).trans c3
                have hlb := lb_step hOB hT hkn hhad ho hq hTt
                have hd2 := dj_on hd (show k < 8 by omega) c2
                have hpr := pcf_rem rest hd.2.1 k (by omega) c2
                have i2 : inB (nI i) 8 = true := inA_nI (by omega) (by omega)
                have key : ∀ x : Int32, x = nI (tmv mv q (pls P k) t) → ∃ s', bX12_endsBy_93 N (fX12_endsBy N (c + 1)) (lX12_endsBy_20 N (fX12_endsBy N (c + 1)) f) 419 (nI S) (nI had) (nI t) (nI q) (nI goal) (nI i) (nI k) (nI (pls P k)) 419 (nI k) x (mk s) = some (.inl (sk_i (pck G (g + 1) k).isSome), mk s') ∧ (∀ l, pck G (g + 1) k = some l → ∀ j, j < l.length → s'.1 442 (i + j) = nI (l.getD j 0)) ∧ (∀ j, j < i → s'.1 442 j = s.1 442 j) ∧ Fr (fun a _ => a = 442) s s' := by
                  intro x hx
                  subst hx
                  unfold bX12_endsBy_93
                  simp (decide := true) only [Option.bind_some, cS_inl, cS_inr, gI_k, gR_k, pI_k, pR_k, cV_k, aI_k, tI_k, rZ_0, rZ_1, rZ_i, rf_12_0, rf_12_1, rf_12_3, rf_12_4, rf_12_5, rf_12_6, rf_12_7, rf_12_8, rf_12_9, rf_12_10, rf_12_11, rf_12_12, rf_12_13, rf_12_14, rf_12_15, rf_12_26, rf_12_27, rf_12_31, rf_12_32, rf_12_33, rf_12_34, rf_12_41, rf_12_44, rf_12_47, rf_12_48, rf_12_49, rf_12_51, rf_12_55, rf_12_56, rf_12_57, rf_12_58, rf_12_59, rf_12_60, Nat.reduceAdd, kc_419, kc_420, kc_421, kc_422, kc_423, kc_424, kc_425, kc_426, kc_427, kc_428, kc_429, kc_430, kc_431, kc_432, kc_433, kc_434, kc_435, kc_436, kc_437, kc_438, kc_439, kc_440, kc_441, kc_442, kc_443, kc_444, kc_445, kc_446, kc_447, kc_448, kc_449, kc_450, kc_451, kc_452, kc_453, kn_420, kn_421, kn_422, kn_423, kn_424, kn_425, kn_426, kn_427, kn_428, kn_429, kn_430, kn_431, kn_432, kn_433, kn_434, kn_435, kn_436, kn_437, kn_438, kn_439, kn_440, kn_441, kn_442, kn_443, kn_444, kn_445, kn_446, kn_447, kn_448, kn_449, kn_450, kn_451, kn_452, kn_453, r_behind hN W hV hE hkn (show tmv mv q (pls P k) t ≤ 200000 by omega), i2, nI_clamp (show i < 2 ^ 31 by omega)]
                  have f1 : Fr (fun a _ => a = 442) s (sI s 442 i (nI k)) := Fr_sI rfl
                  have hV1 : RV (sI s 442 i (nI k)) P st K E := RV_fr hV f1 (by intros; omega) (by intros; omega) (by omega)
                  have ha1 : (sI s 442 i (nI k)).1 419 42 = nI al := by rw [f1.1 _ _ (by omega)]; exact ha
                  have hf1 : (sI s 442 i (nI k)).1 419 43 = nI 0 := by rw [f1.1 _ _ (by omega)]; exact hf
                  have hr1 : ∀ j, j < i → (sI s 442 i (nI k)).1 442 j = s.1 442 j := fun j hj => by rw [sI_1, if_neg (by omega)]
                  have hbb := hOB.2.2.2.1 k (tmv mv q (pls P k) t) hkn
                  by_cases c4 : goal < bhk P st K E k (tmv mv q (pls P k) t)
                  · rw [if_pos (nI_lt c4 (by omega))]
                    exact nxt _ (by rw [← hG]; simp only; rw [if_neg (by omega)]) hV1 ha1 hf1 hr1 f1
                  · rw [if_neg (nI_nlt (by omega) (by omega)), or_bit had k (by omega), hd2.2, nI_1]
                    rw [hd2.2] at hlb
                    obtain ⟨s2, b1, b2, b3, b4⟩ := ih (rest - 2 ^ k) (had + 2 ^ k) (pls P k) (bhk P st K E k (tmv mv q (pls P k) t)) (i + 1) (sI s 442 i (nI k)) (by omega) (by omega) hd2.1 hpl (by omega) hlb (by omega) hV1 ha1 hf1
                    simp (decide := true) only [Option.bind_some, cS_inl, cS_inr, gI_k, gR_k, pI_k, pR_k, cV_k, aI_k, tI_k, rZ_0, rZ_1, rZ_i, rf_12_0, rf_12_1, rf_12_3, rf_12_4, rf_12_5, rf_12_6, rf_12_7, rf_12_8, rf_12_9, rf_12_10, rf_12_11, rf_12_12, rf_12_13, rf_12_14, rf_12_15, rf_12_26, rf_12_27, rf_12_31, rf_12_32, rf_12_33, rf_12_34, rf_12_41, rf_12_44, rf_12_47, rf_12_48, rf_12_49, rf_12_51, rf_12_55, rf_12_56, rf_12_57, rf_12_58, rf_12_59, rf_12_60, Nat.reduceAdd, kc_419, kc_420, kc_421, kc_422, kc_423, kc_424, kc_425, kc_426, kc_427, kc_428, kc_429, kc_430, kc_431, kc_432, kc_433, kc_434, kc_435, kc_436, kc_437, kc_438, kc_439, kc_440, kc_441, kc_442, kc_443, kc_444, kc_445, kc_446, kc_447, kc_448, kc_449, kc_450, kc_451, kc_452, kc_453, kn_420, kn_421, kn_422, kn_423, kn_424, kn_425, kn_426, kn_427, kn_428, kn_429, kn_430, kn_431, kn_432, kn_433, kn_434, kn_435, kn_436, kn_437, kn_438, kn_439, kn_440, kn_441, kn_442, kn_443, kn_444, kn_445, kn_446, kn_447, kn_448, kn_449, kn_450, kn_451, kn_452, kn_453, b1, sk_0]
                    have f2 := Fr_t f1 b4
                    have hGk : G k = (dfr n mv goal (bhk P st K E) (pls P) (frC P) (rest - 2 ^ k) (pls P k) (bhk P st K E k (tmv mv q (pls P k) t))).map (fun l => k :: l) := by
                      rw [← hG]
                      simp only
                      rw [if_pos ⟨c2, c3, by omega⟩]
                    cases hdf : dfr n mv goal (bhk P st K E) (pls P) (frC P) (rest - 2 ^ k) (pls P k) (bhk P st K E k (tmv mv q (pls P k) t)) with
                    | none =>
                      rw [if_pos (by rfl)]
                      exact nxt s2 (by rw [hGk, hdf]; rfl) (RV_fr hV1 b4 (by intros; omega) (by intros; omega) (by omega)) (by rw [b4.1 _ _ (by omega)]; exact ha1) (by rw [b4.1 _ _ (by omega)]; exact hf1) (fun j hj => (b3 j (by omega)).trans (hr1 j hj)) f2
                    | some l9 =>
                      rw [if_neg (show ¬ (some l9).isSome = false from fun q => by cases q)]
                      have hp9 : pck G (g + 1) k = some (k :: l9) := by rw [pck_s, hGk, hdf]; rfl
                      rw [hp9]
                      refine ⟨s2, rfl, fun l hl j hj => ?_, fun j hj => (b3 j (by omega)).trans (hr1 j hj), f2⟩
                      rw [← Option.some.inj hl] at hj ⊢
                      cases j with
                      | zero => rw [Nat.add_zero, b3 i (by omega), sI_1, if_pos ⟨rfl, rfl⟩]; rfl
                      | succ j =>
                        simp only [List.length_cons] at hj
                        have := b2 l9 hdf j (by omega)
                        rw [show i + (j + 1) = i + 1 + j by omega, this]
                        rfl
                have e69 : ∀ x : Int32, x = nI (pls P k) → ∃ s', bX12_endsBy_69 N (fX12_endsBy N (c + 1)) (lX12_endsBy_20 N (fX12_endsBy N (c + 1)) f) 419 (nI S) (nI had) (nI t) (nI q) (nI goal) (nI i) (nI k) x (mk s) = some (.inl (sk_i (pck G (g + 1) k).isSome), mk s') ∧ (∀ l, pck G (g + 1) k = some l → ∀ j, j < l.length → s'.1 442 (i + j) = nI (l.getD j 0)) ∧ (∀ j, j < i → s'.1 442 j = s.1 442 j) ∧ Fr (fun a _ => a = 442) s s' := by
                  intro x hx
                  subst hx
                  unfold bX12_endsBy_69
                  by_cases c5 : pls P k = q
                  · rw [if_neg (fun h => h (by rw [c5]))]
                    refine key _ ?_
                    unfold tmv
                    rw [if_pos c5]
                  · rw [if_pos (fun h => c5 ((nI_eq (by omega) (by omega)).mp h))]
                    simp (decide := true) only [Option.bind_some, cS_inl, cS_inr, gI_k, gR_k, pI_k, pR_k, cV_k, aI_k, tI_k, rZ_0, rZ_1, rZ_i, rf_12_0, rf_12_1, rf_12_3, rf_12_4, rf_12_5, rf_12_6, rf_12_7, rf_12_8, rf_12_9, rf_12_10, rf_12_11, rf_12_12, rf_12_13, rf_12_14, rf_12_15, rf_12_26, rf_12_27, rf_12_31, rf_12_32, rf_12_33, rf_12_34, rf_12_41, rf_12_44, rf_12_47, rf_12_48, rf_12_49, rf_12_51, rf_12_55, rf_12_56, rf_12_57, rf_12_58, rf_12_59, rf_12_60, Nat.reduceAdd, kc_419, kc_420, kc_421, kc_422, kc_423, kc_424, kc_425, kc_426, kc_427, kc_428, kc_429, kc_430, kc_431, kc_432, kc_433, kc_434, kc_435, kc_436, kc_437, kc_438, kc_439, kc_440, kc_441, kc_442, kc_443, kc_444, kc_445, kc_446, kc_447, kc_448, kc_449, kc_450, kc_451, kc_452, kc_453, kn_420, kn_421, kn_422, kn_423, kn_424, kn_425, kn_426, kn_427, kn_428, kn_429, kn_430, kn_431, kn_432, kn_433, kn_434, kn_435, kn_436, kn_437, kn_438, kn_439, kn_440, kn_441, kn_442, kn_443, kn_444, kn_445, kn_446, kn_447, kn_448, kn_449, kn_450, kn_451, kn_452, kn_453, nc_2, e2, nI_add]
                    refine key _ ?_
                    unfold tmv
                    rw [if_neg c5]
                unfold pls at e69
                by_cases c6 : P 1 k = 2
                · rw [if_neg (fun h => h c6)]
                  exact e69 1 (by rw [if_pos c6]; rfl)
                · rw [if_pos c6]
                  exact e69 0 (by rw [if_neg c6]; rfl)
            · have hGk : G k = none := by rw [← hG]; simp only; rw [if_neg (fun h => c2 h.1)]
              by_cases c3 : S.testBit k = true
              · rw [if_neg (fun h => h c3)]
                simp (decide := true) only [Option.bind_some, cS_inl, cS_inr, gI_k, gR_k, pI_k, pR_k, cV_k, aI_k, tI_k, rZ_0, rZ_1, rZ_i, rf_12_0, rf_12_1, rf_12_3, rf_12_4, rf_12_5, rf_12_6, rf_12_7, rf_12_8, rf_12_9, rf_12_10, rf_12_11, rf_12_12, rf_12_13, rf_12_14, rf_12_15, rf_12_26, rf_12_27, rf_12_31, rf_12_32, rf_12_33, rf_12_34, rf_12_41, rf_12_44, rf_12_47, rf_12_48, rf_12_49, rf_12_51, rf_12_55, rf_12_56, rf_12_57, rf_12_58, rf_12_59, rf_12_60, Nat.reduceAdd, kc_419, kc_420, kc_421, kc_422, kc_423, kc_424, kc_425, kc_426, kc_427, kc_428, kc_429, kc_430, kc_431, kc_432, kc_433, kc_434, kc_435, kc_436, kc_437, kc_438, kc_439, kc_440, kc_441, kc_442, kc_443, kc_444, kc_445, kc_446, kc_447, kc_448, kc_449, kc_450, kc_451, kc_452, kc_453, kn_420, kn_421, kn_422, kn_423, kn_424, kn_425, kn_426, kn_427, kn_428, kn_429, kn_430, kn_431, kn_432, kn_433, kn_434, kn_435, kn_436, kn_437, kn_438, kn_439, kn_440, kn_441, kn_442, kn_443, kn_444, kn_445, kn_446, kn_447, kn_448, kn_449, kn_450, kn_451, kn_452, kn_453, r_isOpen W hV hkn hH ha hf had, sk_0]
                have ho : opn P H al 0 k had = false := by
                  have : had.testBit k = true := by
                    have := (hd.2.2.2 k (by omega)).1
                    rw [c3] at this
                    cases e1 : had.testBit k
                    · rw [e1] at this; simp at this; exact absurd this c2
                    · rfl
                  unfold opn
                  rw [this]
                  simp
                rw [ho, if_neg (fun h => h rfl)]
                exact nxt s hGk hV ha hf (fun _ _ => rfl) (Fr_r _ _)
              · rw [if_pos c3]
                exact nxt s hGk hV ha hf (fun _ _ => rfl) (Fr_r _ _)
      obtain ⟨s', b1, b2, b3, b4⟩ := loop N 0 s (by omega) (by omega) hV ha hf
      rw [show n - 0 = n by omega] at b1 b2
      exact ⟨s', b1, b2, b3, b4⟩
end RO
