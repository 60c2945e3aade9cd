/- needs: 60.count -/
/-! the tape, both sides -/
theorem low8 (x : Int32) : ∃ v, v < 256 ∧ x &&& 255 = nI v := by
  obtain ⟨w, hw⟩ : ∃ w, x = nI w := ⟨x.toBitVec.toNat, by
    show x = Int32.ofNat x.toBitVec.toNat
    apply Int32.toBitVec_inj.mp
    rw [Int32.toBitVec_ofNat']
    simp⟩
  refine ⟨w % 2 ^ 8, Nat.mod_lt _ (by decide), ?_⟩
  refine b_ext fun i hi => ?_
  rw [hw, b_and, bt_nI _ _ hi, b_255 i, bt_nI _ _ hi, Nat.testBit_mod_two_pow]
  cases w.testBit i <;> simp
def shI (i : Nat) : Int32 := 24 - 8 * nI i
/-- byte i of a number, the highest first -/
def byt (x : Int32) (i : Nat) : Nat := ((x >>> (shI i &&& 31)) &&& 255).toNatClampNeg
theorem byt_r (x : Int32) (i : Nat) : (x >>> (shI i &&& 31)) &&& 255 = nI (byt x i) ∧ byt x i < 256 := by
  obtain ⟨v, h1, h2⟩ := low8 (x >>> (shI i &&& 31))
  unfold byt
  rw [h2, nI_clamp (by omega)]
  exact ⟨rfl, h1⟩
theorem i8_ext {y z : Int32} (h : ∀ i, i < 8 → bt y i = bt z i) : y.toInt8 = z.toInt8 := by
  apply Int8.toBitVec_inj.mp
  rw [Int32.toBitVec_toInt8, Int32.toBitVec_toInt8]
  apply BitVec.eq_of_getLsbD_eq
  intro i hi
  rw [BitVec.getLsbD_signExtend, BitVec.getLsbD_signExtend, if_pos (by omega), if_pos (by omega)]
  rw [show y.toBitVec.getLsbD i = z.toBitVec.getLsbD i from h i hi]
theorem shI_n : ∀ i, i < 4 → shI i = nI (24 - 8 * i) ∧ shI i + (-8) = shI (i + 1) ∧ ¬ shI i < 0 := by decide +kernel
/-- a byte as the class keeps it -/
def cby (v : Nat) : Int32 := vp_nar .byte ((nI v).toInt8.toInt32)
theorem cby_r (x : Int32) {i : Nat} (hi : i < 4) : vp_nar .byte (((x.toUInt32 >>> ((shI i).toUInt32 &&& Int32.toUInt32 31)).toInt32).toInt8.toInt32) = cby (byt x i) := by
  unfold cby
  have e : ((x.toUInt32 >>> ((shI i).toUInt32 &&& Int32.toUInt32 31)).toInt32).toInt8 = (nI (byt x i)).toInt8 := by
    refine i8_ext fun k hk => ?_
    rw [← (byt_r x i).1, b_and, b_255 k, decide_eq_true hk, Bool.and_true, (shI_n i hi).1, b_ushr (24 - 8 * i) (by omega), b_sshr (24 - 8 * i) (by omega) x (by omega), if_pos (by omega)]
  rw [e]
def TpC (s : sg) (tl : Nat) (T : Nat → Nat) : Prop := s.1 0 1 = nI tl ∧ ∀ j, j < tl → s.1 1 j = cby (T j)
def TpR (s : sg) (tl : Nat) (T : Nat → Nat) : Prop := s.1 419 16 = nI tl ∧ ∀ j, j < tl → s.1 434 j = nI (T j)
def fdT (T : Nat → Nat) (tl : Nat) (x : Nat → Int32) (j : Nat) : Nat := if j < tl then T j else byt (x ((j - tl) / 4)) ((j - tl) % 4)
def ptT (T : Nat → Nat) (tl : Nat) (x : Int32) (j : Nat) : Nat := if j < tl then T j else byt x (j - tl)
theorem ptT_e (T : Nat → Nat) (tl : Nat) (x : Int32) (j : Nat) : ptT T tl x j = if j < tl then T j else byt x (j - tl) := rfl
def x5 (a b c d e : Int32) (i : Nat) : Int32 := if i = 0 then a else if i = 1 then b else if i = 2 then c else if i = 3 then d else e
section FD
variable {N : Nat} {s : sg} {tl : Nat} {T : Nat → Nat} {x : Int32}
theorem c_put3 (ht : tl + 4 ≤ 700) : ∀ (f i : Nat) (s : sg), 4 - i < f → i ≤ 4 → s.1 0 1 = nI (tl + i) → (∀ k, k < i → s.1 1 (tl + k) = cby (byt x k)) → ∃ s', lX11_putBytes_3 N f 0 x (shI i) (mk s) = some (.inl (), mk s') ∧ s'.1 0 1 = nI (tl + 4) ∧ (∀ k, k < 4 → s'.1 1 (tl + k) = cby (byt x k)) ∧ (∀ j, j < tl → s'.1 1 j = s.1 1 j) ∧ Fr (fun y j => y = 1 ∨ (y = 0 ∧ j = 1)) s s' := by
  intro f
  induction f with
  | zero => intro i s hf; omega
  | succ f ih =>
    intro i s hf hi h1 hb
    show ∃ s', bX11_putBytes_3 N (lX11_putBytes_3 N f) 0 x (shI i) (mk s) = _ ∧ _
    unfold bX11_putBytes_3
    by_cases c : i = 4
    · subst c
      rw [if_pos (show shI 4 < 0 by decide)]
      exact ⟨s, rfl, h1, hb, fun j hj => rfl, Fr_r _ _⟩
    · obtain ⟨g1, g2, g3⟩ := shI_n i (by omega)
      have i1 : inB (nI (tl + i)) 700 = true := inA_nI (by omega) (by omega)
      have e1 : (sI s 1 (tl + i) (cby (byt x i))).1 0 1 = nI (tl + i) := by rw [sI_1, if_neg (by omega)]; exact h1
      rw [if_neg g3]
      simp (decide := true) only [ob_s, cS_l, cS_r, gI_k, gR_k, pI_k, pR_k, cV_k, aI_k, tI_k, rZ_0, rZ_1, rZ_i, aR_24, aR_25, aZ_k, tZ_k, rf_3_6, rf_3_7, rf_3_8, rf_5_0, rf_5_1, rf_5_3, rf_5_4, rf_5_5, rf_5_7, rf_6_4, rf_6_11, rf_1_0, rf_1_1, rf_0_6, rf_9_7, rf_9_8, rf_8_0, rf_11_0, rf_11_5, rf_11_6, rf_11_7, rf_11_9, rf_11_10, rf_11_11, rf_11_12, rf_11_3, rf_11_4, Nat.reduceAdd, Nat.zero_add, kc_0, kc_1, kc_34, kc_35, kc_36, kc_37, kc_38, kc_39, kc_40, kc_41, kc_42, kc_43, kc_44, kc_45, kc_46, kc_207, kc_208, kc_209, kc_210, kc_211, kc_212, kc_213, kc_214, kc_215, kc_216, kc_377, kc_378, kc_379, kc_380, kc_381, kc_382, kc_383, kc_384, kc_385, kc_386, kc_387, kc_388, kc_389, kc_390, kc_391, kc_392, kc_393, kc_394, kc_395, kc_414, kc_415, kc_416, kc_417, kc_418, kn_1, kn_36, kn_39, kn_41, kn_42, kn_43, kn_44, kn_45, kn_46, kn_209, kn_211, kn_212, kn_213, kn_214, kn_215, kn_216, kn_378, kn_380, kn_382, kn_383, kn_385, kn_386, kn_388, kn_390, kn_392, kn_393, kn_395, kn_414, kn_415, kn_417, kn_418, h1]
      rw [if_neg (show ¬ (700 : Int32) ≤ nI (tl + i) from nI_ge (b := 700) (by omega) (by omega))]
      simp (decide := true) only [ob_s, cS_l, cS_r, gI_k, gR_k, pI_k, pR_k, cV_k, aI_k, tI_k, rZ_0, rZ_1, rZ_i, aR_24, aR_25, aZ_k, tZ_k, rf_3_6, rf_3_7, rf_3_8, rf_5_0, rf_5_1, rf_5_3, rf_5_4, rf_5_5, rf_5_7, rf_6_4, rf_6_11, rf_1_0, rf_1_1, rf_0_6, rf_9_7, rf_9_8, rf_8_0, rf_11_0, rf_11_5, rf_11_6, rf_11_7, rf_11_9, rf_11_10, rf_11_11, rf_11_12, rf_11_3, rf_11_4, Nat.reduceAdd, Nat.zero_add, kc_0, kc_1, kc_34, kc_35, kc_36, kc_37, kc_38, kc_39, kc_40, kc_41, kc_42, kc_43, kc_44, kc_45, kc_46, kc_207, kc_208, kc_209, kc_210, kc_211, kc_212, kc_213, kc_214, kc_215, kc_216, kc_377, kc_378, kc_379, kc_380, kc_381, kc_382, kc_383, kc_384, kc_385, kc_386, kc_387, kc_388, kc_389, kc_390, kc_391, kc_392, kc_393, kc_394, kc_395, kc_414, kc_415, kc_416, kc_417, kc_418, kn_1, kn_36, kn_39, kn_41, kn_42, kn_43, kn_44, kn_45, kn_46, kn_209, kn_211, kn_212, kn_213, kn_214, kn_215, kn_216, kn_378, kn_380, kn_382, kn_383, kn_385, kn_386, kn_388, kn_390, kn_392, kn_393, kn_395, kn_414, kn_415, kn_417, kn_418, h1, tB_k, i1, cby_r x (show i < 4 by omega), nI_clamp (show tl + i < 2 ^ 31 by omega), e1, nI_1, g2]
      generalize hs1 : sI (sI s 1 (tl + i) (cby (byt x i))) 0 1 (nI (tl + i + 1)) = s1
      have f1 : Fr (fun y j => y = 1 ∨ (y = 0 ∧ j = 1)) s s1 := by
        rw [← hs1]; exact Fr_t (Fr_sI (by omega)) (Fr_sI (by omega))
      obtain ⟨s', b1, b2, b3, b4, b5⟩ := ih (i + 1) s1 (by omega) (by omega) (by rw [← hs1, sI_at]; rfl) (fun k hk => by
        rw [← hs1, sI_1, if_neg (by omega), sI_1]
        by_cases e : k = i
        · rw [e, if_pos ⟨rfl, rfl⟩]
        · rw [if_neg (by omega)]; exact hb k (by omega))
      refine ⟨s', b1, b2, b3, fun j hj => ?_, Fr_t f1 b5⟩
      rw [b4 j hj, ← hs1, sI_1, if_neg (by omega), sI_1, if_neg (by omega)]
theorem c_put (hN1 : 1000 ≤ N) (ht : tl + 4 ≤ 700) (h : TpC s tl T) (x : Int32) : ∃ s', fX11_putBytes N 0 x (mk s) = some (.inl (), mk s') ∧ TpC s' (tl + 4) (ptT T tl x) ∧ Fr (fun y j => y = 1 ∨ (y = 0 ∧ j = 1)) s s' := by
  obtain ⟨s', b1, b2, b3, b4, b5⟩ := c_put3 (N := N) (x := x) ht N 0 s (by omega) (by omega) h.1 (fun k hk => by omega)
  refine ⟨s', b1, ⟨b2, fun j hj => ?_⟩, b5⟩
  rw [ptT_e]
  by_cases c : j < tl
  · rw [b4 j c, h.2 j c, if_pos c]
  · rw [if_neg c]
    have := b3 (j - tl) (by omega)
    rw [show tl + (j - tl) = j by omega] at this
    exact this
theorem c_feed {a b c d e : Int32} (hN1 : 1000 ≤ N) (ht : tl + 20 ≤ 700) (h : TpC s tl T) : ∃ s', fX11_feed N 0 a b c d e (mk s) = some (.inl (nI (tl + 20)), mk s') ∧ TpC s' (tl + 20) (fdT T tl (x5 a b c d e)) ∧ Fr (fun y j => y = 1 ∨ (y = 0 ∧ j = 1)) s s' := by
  obtain ⟨s1, a1, b1, f1⟩ := c_put (N := N) hN1 (show tl + 4 ≤ 700 by omega) h a
  obtain ⟨s2, a2, b2, f2⟩ := c_put (N := N) hN1 (show tl + 4 + 4 ≤ 700 by omega) b1 b
  obtain ⟨s3, a3, b3, f3⟩ := c_put (N := N) hN1 (show tl + 4 + 4 + 4 ≤ 700 by omega) b2 c
  obtain ⟨s4, a4, b4, f4⟩ := c_put (N := N) hN1 (show tl + 4 + 4 + 4 + 4 ≤ 700 by omega) b3 d
  obtain ⟨s5, a5, b5, f5⟩ := c_put (N := N) hN1 (show tl + 4 + 4 + 4 + 4 + 4 ≤ 700 by omega) b4 e
  have e1 : s5.1 0 1 = nI (tl + 20) := b5.1
  refine ⟨s5, ?_, ⟨e1, fun j hj => ?_⟩, Fr_t f1 (Fr_t f2 (Fr_t f3 (Fr_t f4 f5)))⟩
  · have g1 : gI (mk s) 0 11 1 = some (nI tl) := by rw [← h.1]; exact gI_k ⟨rfl, rfl, by decide⟩
    have g5 : gI (mk s5) 0 11 1 = some (nI (tl + 20)) := by rw [← e1]; exact gI_k ⟨rfl, rfl, by decide⟩
    have cv : ∀ (s : sg) {α β : Type} {x : mR α} {f : α → mm_C → mR β}, cV 11 0 (mk s) x f = cS x f := fun s => cV_k ⟨rfl, by decide⟩
    have e20 : nI tl + (20 : Int32) = nI (tl + 20) := nI_add tl 20
    unfold fX11_feed bX11_feed_0
    rw [g1, ob_s, e20, if_pos (show nI (tl + 20) ≤ (700 : Int32) from nI_le (b := 700) ht (by omega)), cv, a1, cS_l, cv, a2, cS_l, cv, a3, cS_l, cv, a4, cS_l, cv, a5, cS_l, g5, ob_s]
  · rw [b5.2 j (by omega)]
    refine congrArg cby ?_
    rw [ptT_e, ptT_e, ptT_e, ptT_e, ptT_e]
    by_cases c0 : j < tl
    · unfold fdT
      rw [if_pos (by omega), if_pos (by omega), if_pos (by omega), if_pos (by omega), if_pos c0, if_pos c0]
    · have efd : fdT T tl (x5 a b c d e) j = byt (x5 a b c d e ((j - tl) / 4)) ((j - tl) % 4) := by
        unfold fdT
        rw [if_neg c0]
      rw [efd]
      by_cases c1 : j < tl + 4
      · rw [if_pos (by omega), if_pos (by omega), if_pos (by omega), if_pos c1, if_neg c0, show (j - tl) / 4 = 0 by omega, show (j - tl) % 4 = j - tl by omega]; rfl
      · by_cases c2 : j < tl + 8
        · rw [if_pos (by omega), if_pos (by omega), if_pos (by omega), if_neg c1, show (j - tl) / 4 = 1 by omega, show (j - tl) % 4 = j - (tl + 4) by omega]; rfl
        · by_cases c3 : j < tl + 12
          · rw [if_pos (by omega), if_pos (by omega), if_neg (by omega), show (j - tl) / 4 = 2 by omega, show (j - tl) % 4 = j - (tl + 8) by omega]; rfl
          · by_cases c4 : j < tl + 16
            · rw [if_pos (by omega), if_neg (by omega), show (j - tl) / 4 = 3 by omega, show (j - tl) % 4 = j - (tl + 12) by omega]; rfl
            · rw [if_neg (by omega), show (j - tl) / 4 = 4 by omega, show (j - tl) % 4 = j - (tl + 16) by omega]; rfl
theorem c_feed' {a b c d e : Int32} (ht : tl ≤ 700) (h2 : 700 < tl + 20) (h : TpC s tl T) : fX11_feed N 0 a b c d e (mk s) = some (.inl (-1), mk s) := by
  have g1 : gI (mk s) 0 11 1 = some (nI tl) := by rw [← h.1]; exact gI_k ⟨rfl, rfl, by decide⟩
  have e20 : nI tl + (20 : Int32) = nI (tl + 20) := nI_add tl 20
  unfold fX11_feed bX11_feed_0
  rw [g1, ob_s, e20, if_neg (show ¬ nI (tl + 20) ≤ (700 : Int32) from nI_ge (a := 700) h2 (by omega))]
theorem r_feed23 {a b c d e : Int32} (ht : tl + 20 ≤ 700) : ∀ (f i : Nat) (s : sg), 20 - i < f → i ≤ 20 → TpR s (tl + i) (fdT T tl (x5 a b c d e)) → ∃ s', lX12_feed_23 N f 419 a b c d e (nI i) (mk s) = some (.inl (nI (tl + 20)), mk s') ∧ TpR s' (tl + 20) (fdT T tl (x5 a b c d e)) ∧ Fr (fun y j => y = 434 ∨ (y = 419 ∧ j = 16)) s s' := by
  intro f
  induction f with
  | zero => intro i s hf; omega
  | succ f ih =>
    intro i s hf hi h
    show ∃ s', bX12_feed_23 N (lX12_feed_23 N f) 419 a b c d e (nI i) (mk s) = _ ∧ _
    unfold bX12_feed_23
    by_cases c0 : i = 20
    · subst c0
      rw [if_pos (show (20 : Int32) ≤ nI 20 by decide)]
      unfold bX12_feed_120
      rw [gI12 16 rfl, ob_s, h.1]
      exact ⟨s, rfl, h, Fr_r _ _⟩
    · rw [if_neg (show ¬ (20 : Int32) ≤ nI i from nI_ge (b := 20) (by omega) (by omega))]
      have key : ∃ s', bX12_feed_76 N (lX12_feed_23 N f) 419 a b c d e (nI i) (x5 a b c d e (i / 4)) (mk s) = some (.inl (nI (tl + 20)), mk s') ∧ TpR s' (tl + 20) (fdT T tl (x5 a b c d e)) ∧ Fr (fun y j => y = 434 ∨ (y = 419 ∧ j = 16)) s s' := by
        have i1 : inB (nI (tl + i)) 700 = true := inA_nI (by omega) (by omega)
        have hrm : rmI (nI i) (4 : Int32) = some (nI (i % 4)) := rm_nI (b := 4) (by omega) (by omega) (by omega)
        have hb : (x5 a b c d e (i / 4) >>> (((24 : Int32) - 8 * nI (i % 4)) &&& 31)) &&& 255 = nI (byt (x5 a b c d e (i / 4)) (i % 4)) := (byt_r _ _).1
        have e16 : ∀ y, (sI s 434 (tl + i) y).1 419 16 = nI (tl + i) := fun y => by rw [sI_1, if_neg (by omega)]; exact h.1
        unfold bX12_feed_76
        rw [gR12 15 434 rfl rfl, ob_s, gI12 16 rfl, ob_s, h.1, hrm, ob_s, hb, tI_k ⟨rfl, i1⟩, ob_s, nI_clamp (by omega), gI12 16 rfl, ob_s, e16, pI12 16 rfl, ob_s, nI_1, nI_1]
        generalize hs1 : sI (sI s 434 (tl + i) (nI (byt (x5 a b c d e (i / 4)) (i % 4)))) 419 16 (nI (tl + i + 1)) = s1
        have f1 : Fr (fun y j => y = 434 ∨ (y = 419 ∧ j = 16)) s s1 := by
          rw [← hs1]; exact Fr_t (Fr_sI (by omega)) (Fr_sI (by omega))
        obtain ⟨s', b1, b2, b3⟩ := ih (i + 1) s1 (by omega) (by omega) ⟨by rw [← hs1, sI_at]; rfl, fun j hj => by
          rw [← hs1, sI_1, if_neg (by omega), sI_1]
          by_cases g : j = tl + i
          · rw [if_pos ⟨rfl, g⟩, g]
            unfold fdT
            rw [if_neg (by omega), show tl + i - tl = i by omega]
          · rw [if_neg (fun q => g q.2)]; exact h.2 j (by omega)⟩
        exact ⟨s', b1, b2, Fr_t f1 b3⟩
      by_cases c1 : i < 4
      · rw [show i / 4 = 0 by omega] at key
        rw [if_neg (show ¬ (4 : Int32) ≤ nI i from nI_ge (b := 4) c1 (by omega))]; exact key
      · rw [if_pos (show (4 : Int32) ≤ nI i from nI_le (a := 4) (by omega) (by omega))]
        by_cases c2 : i < 8
        · rw [show i / 4 = 1 by omega] at key
          rw [if_neg (show ¬ (8 : Int32) ≤ nI i from nI_ge (b := 8) c2 (by omega))]; exact key
        · rw [if_pos (show (8 : Int32) ≤ nI i from nI_le (a := 8) (by omega) (by omega))]
          by_cases c3 : i < 12
          · rw [show i / 4 = 2 by omega] at key
            rw [if_neg (show ¬ (12 : Int32) ≤ nI i from nI_ge (b := 12) c3 (by omega))]; exact key
          · rw [if_pos (show (12 : Int32) ≤ nI i from nI_le (a := 12) (by omega) (by omega))]
            by_cases c4 : i < 16
            · rw [show i / 4 = 3 by omega] at key
              rw [if_neg (show ¬ (16 : Int32) ≤ nI i from nI_ge (b := 16) c4 (by omega))]; exact key
            · rw [show i / 4 = 4 by omega] at key
              rw [if_pos (show (16 : Int32) ≤ nI i from nI_le (a := 16) (by omega) (by omega))]; exact key
theorem TpR_0 (h : TpR s tl T) : TpR (sI s 419 2 0) tl T := ⟨by rw [sI_1, if_neg (by omega)]; exact h.1, fun j hj => by rw [sI_1, if_neg (by omega)]; exact h.2 j hj⟩
theorem r_feed {a b c d e : Int32} (hN1 : 1000 ≤ N) (ht : tl + 20 ≤ 700) (h : TpR s tl T) : ∃ s', fX12_feed N 419 a b c d e (mk s) = some (.inl (nI (tl + 20)), mk s') ∧ s'.1 419 2 = 0 ∧ TpR s' (tl + 20) (fdT T tl (x5 a b c d e)) ∧ Fr (fun y j => y = 434 ∨ (y = 419 ∧ (j = 2 ∨ j = 16))) s s' := by
  have h1 := TpR_0 h
  obtain ⟨s', b1, b2, b3⟩ := r_feed23 (N := N) (T := T) (a := a) (b := b) (c := c) (d := d) (e := e) ht N 0 (sI s 419 2 0) (by omega) (by omega) ⟨h1.1, fun j hj => by
    rw [h1.2 j hj]
    unfold fdT
    rw [if_pos (by omega)]⟩
  have e20 : nI tl + (20 : Int32) = nI (tl + 20) := nI_add tl 20
  refine ⟨s', ?_, (b3.1 _ _ (by omega)).trans (sI_at _ _ _ _), b2, Fr_t (Fr_sI (by omega)) (Fr_m b3 (by intros; omega))⟩
  unfold fX12_feed bX12_feed_0
  rw [pI12 2 rfl, ob_s, gI12 16 rfl, ob_s, h1.1, e20, if_pos (show nI (tl + 20) ≤ (700 : Int32) from nI_le (b := 700) ht (by omega))]
  exact b1
theorem r_feed' {a b c d e : Int32} (ht : tl ≤ 700) (h2 : 700 < tl + 20) (h : TpR s tl T) : fX12_feed N 419 a b c d e (mk s) = some (.inl (-1), mk (sI s 419 2 0)) := by
  have h1 := TpR_0 h
  have e20 : nI tl + (20 : Int32) = nI (tl + 20) := nI_add tl 20
  unfold fX12_feed bX12_feed_0
  rw [pI12 2 rfl, ob_s, gI12 16 rfl, ob_s, h1.1, e20, if_neg (show ¬ nI (tl + 20) ≤ (700 : Int32) from nI_ge (a := 700) h2 (by omega))]
end FD
