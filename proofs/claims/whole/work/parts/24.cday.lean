/- needs: 23.mcopy -/
/-! frames: only the cells D have changed -/
def Fr (D : Nat → Nat → Prop) (s s' : sg) : Prop := (∀ a j, ¬ D a j → s'.1 a j = s.1 a j) ∧ (∀ a j, ¬ D a j → s'.2.1 a j = s.2.1 a j) ∧ s'.2.2 = s.2.2
theorem Fr_r (D : Nat → Nat → Prop) (s : sg) : Fr D s s := ⟨fun _ _ _ => rfl, fun _ _ _ => rfl, rfl⟩
theorem Fr_t {D : Nat → Nat → Prop} {s s' s'' : sg} (h1 : Fr D s s') (h2 : Fr D s' s'') : Fr D s s'' := ⟨fun a j h => (h2.1 a j h).trans (h1.1 a j h), fun a j h => (h2.2.1 a j h).trans (h1.2.1 a j h), h2.2.2.trans h1.2.2⟩
theorem Fr_m {D E : Nat → Nat → Prop} {s s' : sg} (h1 : Fr D s s') (h : ∀ a j, D a j → E a j) : Fr E s s' := ⟨fun a j q => h1.1 a j (fun d => q (h a j d)), fun a j q => h1.2.1 a j (fun d => q (h a j d)), h1.2.2⟩
theorem Fr_sI {D : Nat → Nat → Prop} {s : sg} {a j : Nat} {x : Int32} (h : D a j) : Fr D s (sI s a j x) := ⟨fun a' j' q => by rw [sI_1, if_neg (fun e => q (by rw [e.1, e.2]; exact h))], fun _ _ _ => rfl, rfl⟩
theorem Fr_sR {D : Nat → Nat → Prop} {s : sg} {a j x : Nat} (h : D a j) : Fr D s (sR s a j x) := ⟨fun _ _ _ => rfl, fun a' j' q => by rw [sR_2, if_neg (fun e => q (by rw [e.1, e.2]; exact h))], rfl⟩
theorem Fr_sA {D : Nat → Nat → Prop} {s : sg} {a : Nat} {f : Nat → Int32} (h : ∀ j, D a j) : Fr D s (sA s a f) := ⟨fun a' j' q => by rw [sA_1, if_neg (fun e => q (by rw [e]; exact h j'))], fun _ _ _ => rfl, rfl⟩
theorem im_1_2 (a : Nat) : imK 1 a 2 = none := rfl
theorem im_1_3 (a : Nat) : imK 1 a 3 = none := rfl
theorem rf_1_2 (s : sg) (a : Nat) : rf s 1 a 2 = s.2.1 a 2 := rfl
theorem rf_1_3 (s : sg) (a : Nat) : rf s 1 a 3 = s.2.1 a 3 := rfl
theorem sI_r (s : sg) (a j : Nat) (x : Int32) : (sI s a j x).2.1 = s.2.1 := rfl
theorem sA_r (s : sg) (a : Nat) (f : Nat → Int32) : (sA s a f).2.1 = s.2.1 := rfl
theorem mn_nI {a b : Nat} (ha : a < 2 ^ 31) (hb : b < 2 ^ 31) : mnI (nI a) (nI b) = nI (min a b) := by
  unfold mnI
  by_cases h : b < a
  · rw [if_pos (nI_lt h ha), Nat.min_eq_right (by omega)]
  · rw [if_neg (nI_nlt (by omega) hb), Nat.min_eq_left (by omega)]
theorem mx_nI {a b : Nat} (ha : a < 2 ^ 31) (hb : b < 2 ^ 31) : mxI (nI a) (nI b) = nI (max a b) := by
  unfold mxI
  by_cases h : a < b
  · rw [if_pos (nI_lt h hb), Nat.max_eq_right (by omega)]
  · rw [if_neg (nI_nlt (by omega) ha), Nat.max_eq_left (by omega)]
theorem nI_inj {a b : Nat} (ha : a < 2 ^ 31) (hb : b < 2 ^ 31) : (nI a = nI b) ↔ a = b := by
  constructor
  · intro h
    have := congrArg Int32.toNatClampNeg h
    rwa [nI_clamp ha, nI_clamp hb] at this
  · intro h; rw [h]
/-! the class's sky -/
def skO (q : Nat) : Prop := kc q = 8 ∧ kc (q + 1) = 20 ∧ kn (q + 1) = 15
def kSky (s : sg) (q : Nat) (K : Nat → Bool) : Prop := ∀ m, m < 480 → bt (s.1 (q + 1) (m / 32)) (m % 32) = K m
theorem kSky_fr {D : Nat → Nat → Prop} {s s' : sg} {q : Nat} {K : Nat → Bool} (h : kSky s q K) (f : Fr D s s') (hd : ∀ j, ¬ D (q + 1) j) : kSky s' q K := fun m hm => by rw [f.1 _ _ (hd _)]; exact h m hm
section CD
variable {N : Nat} {s : sg} {K : Nat → Bool}
theorem c_isSun {q m : Nat} (h : skO q) (hK : kSky s q K) (hm : m < 480) : fX8_isSun N q (nI m) (mk s) = some (.inl (sk_i (K m)), mk s) := by
  obtain ⟨h1, h2, h3⟩ := h
  have i1 : inB (nI (m / 32)) 15 = true := inA_nI (by omega) (by omega)
  unfold fX8_isSun bX8_isSun_0
  rw [if_neg (nI_pos (by omega)), if_pos (show nI m < 480 from nI_lt (b := 480) hm (by omega))]
  simp (decide := true) only [Option.bind_some, cS_inl, cS_inr, gI_k, gR_k, pI_k, pR_k, cV_k, aI_k, tI_k, rZ_0, rZ_1, rZ_i, aB_k, tB_k, aZ_k, tZ_k, aR_24, aR_25, aR_27, rf_0_6, rf_0_7, rf_0_8, rf_0_9, rf_1_0, rf_1_1, rf_2_2, rf_3_6, rf_3_7, rf_3_8, rf_4_1, rf_4_3, rf_4_4, rf_5_0, rf_5_1, rf_5_3, rf_5_4, rf_5_5, rf_5_7, rf_6_4, rf_6_9, rf_6_10, rf_6_11, rf_6_12, rf_6_5, rf_8_0, rf_9_7, rf_9_8, rf_10_2, rf_11_0, rf_11_5, rf_11_6, rf_11_7, rf_11_9, rf_11_10, rf_11_11, rf_11_12, rf_24, rf_27, h1, h2, h3, s_div m hm, s_mod m hm, i1, nI_clamp (show m / 32 < 2 ^ 31 by omega), b_and1, b_ushr (m % 32) (by omega), Nat.add_zero, hK m hm]
  cases K m <;> rfl
theorem kSky_flip {q i : Nat} (hK : kSky s q K) (hi : i < 480) : kSky (sI s (q + 1) (i / 32) (s.1 (q + 1) (i / 32) ^^^ ((1 : Int32) <<< (nI (i % 32) &&& 31)))) q (fun m => if m = i then !K i else K m) := by
  intro m hm
  show bt _ _ = (if m = i then !K i else K m)
  rw [sI_1]
  by_cases h1 : m / 32 = i / 32
  · rw [if_pos ⟨rfl, h1⟩, b_xor, b_shl1 (i % 32) (by omega) (by omega)]
    by_cases h2 : m = i
    · subst h2
      rw [hK m hm, if_pos rfl]
      simp
    · rw [if_neg h2, ← h1, hK m hm]
      simp [show ¬ m % 32 = i % 32 by omega]
  · rw [if_neg (fun e => h1 e.2), hK m hm, if_neg (fun e : m = i => h1 (by rw [e]))]
/-- of f minutes from m on, those that are otherwise -/
def dif (K : Nat → Bool) (on : Bool) : Nat → Nat → Nat
  | 0, _ => 0
  | f + 1, m => (if K m = on then 0 else 1) + dif K on f (m + 1)
theorem dif_s (K : Nat → Bool) (on : Bool) (f m : Nat) : dif K on (f + 1) m = (if K m = on then 0 else 1) + dif K on f (m + 1) := rfl
theorem dif_le (K : Nat → Bool) (on : Bool) : ∀ f m, dif K on f m ≤ f
  | 0, _ => Nat.le_refl 0
  | f + 1, m => by
    rw [dif_s]
    have := dif_le K on f (m + 1)
    split <;> omega
/-- painted from u to (not with) e -/
def pnt (K : Nat → Bool) (on : Bool) (u e m : Nat) : Bool := if u ≤ m ∧ m < e then on else K m
theorem c_paint19 {q u l : Nat} {on : Bool} (h : skO q) (hl : l < 480) : ∀ (f i c : Nat) (s : sg), l + 1 - i < f → u ≤ i → i ≤ 480 → kSky s q (pnt K on u i) → ∃ s', lX8_paint_19 N f q (sk_i on) (nI l) (nI c) (nI i) (mk s) = some (.inl (nI (c + dif K on (l + 1 - i) i)), mk s') ∧ kSky s' q (pnt K on u (max i (l + 1))) ∧ Fr (fun x _ => x = q + 1) s s' := by
  have h0 := h
  obtain ⟨h1, h2, h3⟩ := h
  intro f
  induction f with
  | zero => intro i c s hf; omega
  | succ f ih =>
    intro i c s hf hu hi hK
    show ∃ s', bX8_paint_19 N (lX8_paint_19 N f) q (sk_i on) (nI l) (nI c) (nI i) (mk s) = _ ∧ _
    unfold bX8_paint_19
    by_cases c1 : l < i
    · rw [if_pos (nI_lt c1 (by omega))]
      refine ⟨s, ?_, ?_, Fr_r _ _⟩
      · rw [show l + 1 - i = 0 by omega]; rfl
      · rw [Nat.max_eq_left (by omega)]; exact hK
    · rw [if_neg (nI_nlt (by omega) (by omega))]
      have hm : i < 480 := by omega
      have i1 : inB (nI (i / 32)) 15 = true := inA_nI (by omega) (by omega)
      have hp : pnt K on u i i = K i := by unfold pnt; rw [if_neg (by omega)]
      obtain ⟨g, hg⟩ : ∃ g, l + 1 - i = g + 1 := ⟨l - i, by omega⟩
      have hm2 : max (i + 1) (l + 1) = max i (l + 1) := by omega
      simp (decide := true) only [Option.bind_some, cS_inl, cS_inr, gI_k, gR_k, pI_k, pR_k, cV_k, aI_k, tI_k, rZ_0, rZ_1, rZ_i, aB_k, tB_k, aZ_k, tZ_k, aR_24, aR_25, aR_27, rf_0_6, rf_0_7, rf_0_8, rf_0_9, rf_1_0, rf_1_1, rf_2_2, rf_3_6, rf_3_7, rf_3_8, rf_4_1, rf_4_3, rf_4_4, rf_5_0, rf_5_1, rf_5_3, rf_5_4, rf_5_5, rf_5_7, rf_6_4, rf_6_9, rf_6_10, rf_6_11, rf_6_12, rf_6_5, rf_8_0, rf_9_7, rf_9_8, rf_10_2, rf_11_0, rf_11_5, rf_11_6, rf_11_7, rf_11_9, rf_11_10, rf_11_11, rf_11_12, rf_24, rf_27, h1, h2, h3, c_isSun h0 hK hm, hp, sk_inj]
      by_cases c2 : K i = on
      · rw [if_pos c2]
        unfold bX8_paint_58
        rw [nI_1]
        have hK2 : kSky s q (pnt K on u (i + 1)) := fun m hm => by
          rw [hK m hm]
          unfold pnt
          by_cases e : m = i
          · subst e; rw [if_neg (by omega), if_pos (by omega), c2]
          · by_cases e2 : u ≤ m ∧ m < i
            · rw [if_pos e2, if_pos (by omega)]
            · rw [if_neg e2, if_neg (by omega)]
        obtain ⟨s', a1, a2, a3⟩ := ih (i + 1) c s (by omega) (by omega) (by omega) hK2
        refine ⟨s', ?_, ?_, a3⟩
        · rw [a1, hg, dif_s, if_pos c2, show l + 1 - (i + 1) = g by omega, Nat.zero_add]
        · rw [← hm2]; exact a2
      · rw [if_neg c2]
        simp (decide := true) only [Option.bind_some, cS_inl, cS_inr, gI_k, gR_k, pI_k, pR_k, cV_k, aI_k, tI_k, rZ_0, rZ_1, rZ_i, aB_k, tB_k, aZ_k, tZ_k, aR_24, aR_25, aR_27, rf_0_6, rf_0_7, rf_0_8, rf_0_9, rf_1_0, rf_1_1, rf_2_2, rf_3_6, rf_3_7, rf_3_8, rf_4_1, rf_4_3, rf_4_4, rf_5_0, rf_5_1, rf_5_3, rf_5_4, rf_5_5, rf_5_7, rf_6_4, rf_6_9, rf_6_10, rf_6_11, rf_6_12, rf_6_5, rf_8_0, rf_9_7, rf_9_8, rf_10_2, rf_11_0, rf_11_5, rf_11_6, rf_11_7, rf_11_9, rf_11_10, rf_11_11, rf_11_12, rf_24, rf_27, h1, h2, h3, s_div i hm, s_mod i hm, i1, nI_clamp (show i / 32 < 2 ^ 31 by omega)]
        unfold bX8_paint_58
        rw [nI_1, nI_1]
        have hK2 : kSky (sI s (q + 1) (i / 32) (s.1 (q + 1) (i / 32) ^^^ ((1 : Int32) <<< (nI (i % 32) &&& 31)))) q (pnt K on u (i + 1)) := fun m hm' => by
          rw [kSky_flip hK hm m hm']
          show (if m = i then !pnt K on u i i else pnt K on u i m) = _
          rw [hp]
          unfold pnt
          by_cases e : m = i
          · subst e
            rw [if_pos rfl, if_pos (by omega)]
            clear ih
            revert c2
            cases K m <;> cases on <;> decide
          · rw [if_neg e]
            by_cases e2 : u ≤ m ∧ m < i
            · rw [if_pos e2, if_pos (by omega)]
            · rw [if_neg e2, if_neg (by omega)]
        obtain ⟨s', a1, a2, a3⟩ := ih (i + 1) (c + 1) _ (by omega) (by omega) (by omega) hK2
        refine ⟨s', ?_, ?_, Fr_t (Fr_sI rfl) a3⟩
        · rw [a1, hg, dif_s, if_neg c2, show l + 1 - (i + 1) = g by omega, Nat.add_assoc]
        · rw [← hm2]; exact a2
theorem c_paint {q u v : Nat} {on : Bool} (hN : 1000 ≤ N) (h : skO q) (hu : u ≤ 480) (hv : v < 2 ^ 31) (hK : kSky s q K) : ∃ s', fX8_paint N q (nI u) (nI v) (sk_i on) (mk s) = some (.inl (nI (dif K on (min v 479 + 1 - u) u)), mk s') ∧ kSky s' q (pnt K on u (v + 1)) ∧ Fr (fun x _ => x = q + 1) s s' := by
  unfold fX8_paint bX8_paint_0
  rw [show (479 : Int32) = nI 479 from rfl, show (0 : Int32) = nI 0 from rfl, mn_nI hv (by omega), mx_nI (by omega) (by omega), Nat.max_eq_left (by omega)]
  have hK2 : kSky s q (pnt K on u u) := fun m hm => by rw [hK m hm]; unfold pnt; rw [if_neg (by omega)]
  obtain ⟨s', a1, a2, a3⟩ := c_paint19 (N := N) h (show min v 479 < 480 by omega) N u 0 s (by omega) (by omega) hu hK2
  refine ⟨s', ?_, ?_, a3⟩
  · rw [a1, Nat.zero_add]
  · intro m hm
    rw [a2 m hm]
    unfold pnt
    by_cases e : u ≤ m ∧ m < v + 1
    · rw [if_pos e, if_pos (by omega)]
    · rw [if_neg e]
      by_cases e2 : u ≤ m ∧ m < max u (min v 479 + 1)
      · omega
      · rw [if_neg e2]
theorem c_skClear2 {q : Nat} (h : skO q) : ∀ (f i : Nat) (s : sg), 15 - i < f → i ≤ 15 → (∀ j, j < i → s.1 (q + 1) j = 0) → ∃ s', lX8_clears_2 N f q (nI i) (mk s) = some (.inl (), mk s') ∧ (∀ j, j < 15 → s'.1 (q + 1) j = 0) ∧ Fr (fun x _ => x = q + 1) s s' := by
  obtain ⟨h1, h2, h3⟩ := h
  intro f
  induction f with
  | zero => intro i s hf; omega
  | succ f ih =>
    intro i s hf hi hz
    show ∃ s', bX8_clears_2 N (lX8_clears_2 N f) q (nI i) (mk s) = _ ∧ _
    unfold bX8_clears_2
    by_cases c1 : 15 ≤ i
    · rw [if_pos (show (15 : Int32) ≤ nI i from nI_le (a := 15) c1 (by omega))]
      exact ⟨s, rfl, fun j hj => hz j (by omega), Fr_r _ _⟩
    · rw [if_neg (show ¬ (15 : Int32) ≤ nI i from nI_ge (b := 15) (by omega) (by omega))]
      have i1 : inB (nI i) 15 = true := inA_nI (by omega) (by omega)
      simp (decide := true) only [Option.bind_some, cS_inl, cS_inr, gI_k, gR_k, pI_k, pR_k, cV_k, aI_k, tI_k, rZ_0, rZ_1, rZ_i, aB_k, tB_k, aZ_k, tZ_k, aR_24, aR_25, aR_27, rf_0_6, rf_0_7, rf_0_8, rf_0_9, rf_1_0, rf_1_1, rf_2_2, rf_3_6, rf_3_7, rf_3_8, rf_4_1, rf_4_3, rf_4_4, rf_5_0, rf_5_1, rf_5_3, rf_5_4, rf_5_5, rf_5_7, rf_6_4, rf_6_9, rf_6_10, rf_6_11, rf_6_12, rf_6_5, rf_8_0, rf_9_7, rf_9_8, rf_10_2, rf_11_0, rf_11_5, rf_11_6, rf_11_7, rf_11_9, rf_11_10, rf_11_11, rf_11_12, rf_24, rf_27, h1, h2, h3, i1, nI_clamp (show i < 2 ^ 31 by omega), nI_1]
      obtain ⟨s', a1, a2, a3⟩ := ih (i + 1) (sI s (q + 1) i 0) (by omega) (by omega) (fun j hj => by
        rw [sI_1]
        by_cases e : j = i
        · rw [if_pos ⟨rfl, e⟩]
        · rw [if_neg (fun q => e q.2)]; exact hz j (by omega))
      exact ⟨s', a1, a2, Fr_t (Fr_sI rfl) a3⟩
theorem c_skClear {q : Nat} (hN : 1000 ≤ N) (h : skO q) : ∃ s', fX8_clears N q (mk s) = some (.inl (), mk s') ∧ kSky s' q (fun _ => false) ∧ Fr (fun x _ => x = q + 1) s s' := by
  obtain ⟨s', a1, a2, a3⟩ := c_skClear2 (N := N) h N 0 s (by omega) (by omega) (fun j hj => by omega)
  exact ⟨s', a1, fun m hm => by rw [a2 _ (by omega), b_0], a3⟩
theorem c_skCopy {q r : Nat} (h : skO q) (hr : skO r) (hK : kSky s r K) : fX8_copyFrom N q r (mk s) = some (.inl (), mk (sA s (q + 1) (va_cpy (s.1 (r + 1)) (s.1 (q + 1)) 0 0 15))) := by
  obtain ⟨h1, h2, h3⟩ := h
  obtain ⟨g1, g2, g3⟩ := hr
  unfold fX8_copyFrom bX8_copyFrom_0
  simp (decide := true) only [Option.bind_some, cS_inl, cS_inr, gI_k, gR_k, pI_k, pR_k, cV_k, aI_k, tI_k, rZ_0, rZ_1, rZ_i, aB_k, tB_k, aZ_k, tZ_k, aR_24, aR_25, aR_27, rf_0_6, rf_0_7, rf_0_8, rf_0_9, rf_1_0, rf_1_1, rf_2_2, rf_3_6, rf_3_7, rf_3_8, rf_4_1, rf_4_3, rf_4_4, rf_5_0, rf_5_1, rf_5_3, rf_5_4, rf_5_5, rf_5_7, rf_6_4, rf_6_9, rf_6_10, rf_6_11, rf_6_12, rf_6_5, rf_8_0, rf_9_7, rf_9_8, rf_10_2, rf_11_0, rf_11_5, rf_11_6, rf_11_7, rf_11_9, rf_11_10, rf_11_11, rf_11_12, rf_24, rf_27, h1, g1]
  have := cpA_mk (s := s) (sp := 0) (dp := 0) (m := 15) (kd_p g2 g3) (kd_p h2 h3) (Or.inl ⟨rfl, rfl⟩) (by decide) (by decide) (by decide) (by decide) (by decide) (fun _ _ => rfl)
  rw [this]
  rfl
theorem kSky_cp {q r : Nat} (hK : kSky s r K) : kSky (sA s (q + 1) (va_cpy (s.1 (r + 1)) (s.1 (q + 1)) 0 0 15)) q K := by
  intro m hm
  rw [sA_1, if_pos rfl]
  unfold va_cpy
  rw [if_pos (by omega), show 0 + (m / 32 - 0) = m / 32 by omega]
  exact hK m hm
end CD
