/-! Sky: paint -/
theorem mm_up_up (h : mm_H) (k : Nat) (e e' : mm_E) : mm_up (mm_up h k e) k e' = mm_up h k e' := by
  unfold mm_up
  congr 1
  funext q
  by_cases hq : q = k <;> simp [hq]
theorem mm_up_self {h : mm_H} {k : Nat} {e : mm_E} (hk : h.2 k = some e) : mm_up h k e = h := by
  obtain ⟨n, f⟩ := h
  unfold mm_up
  congr 1
  funext q
  by_cases hq : q = k
  · subst hq; simp only [if_true]; exact hk.symm
  · simp [hq]
theorem nI_maxI {a b : Nat} (ha : a < 2 ^ 31) (hb : b < 2 ^ 31) : (if nI a < nI b then nI b else nI a) = nI (max a b) := by
  by_cases h : a < b
  · rw [if_pos (nI_lt h hb), Nat.max_eq_right (by omega)]
  · rw [if_neg (nI_nlt (by omega) ha), Nat.max_eq_left (by omega)]
theorem nI_minI {a b : Nat} (ha : a < 2 ^ 31) (hb : b < 2 ^ 31) : (if nI b < nI a then nI b else nI a) = nI (min a b) := by
  by_cases h : b < a
  · rw [if_pos (nI_lt h ha), Nat.min_eq_right (by omega)]
  · rw [if_neg (nI_nlt (by omega) hb), Nat.min_eq_left (by omega)]
/-- one minute turned over -/
def sk_x (b : Nat → Int32) (m : Nat) : Nat → Int32 := upd b (m / 32) (b (m / 32) ^^^ ((1 : Int32) <<< (nI (m % 32) &&& 31)))
theorem sk_x_b {b : Nat → Int32} {m q : Nat} : sk_b (sk_x b m) q = if q = m then !sk_b b m else sk_b b q := by
  unfold sk_b sk_x upd
  by_cases h : q / 32 = m / 32
  · rw [if_pos h, b_xor, b_shl1 (m % 32) (by omega) (show q % 32 < 32 by omega)]
    by_cases h2 : q = m
    · subst h2; simp
    · have h3 : ¬ q % 32 = m % 32 := by omega
      rw [if_neg h2, h]; simp [h3]
  · rw [if_neg h, if_neg (fun e => h (by rw [e]))]
/-- the minutes a, a + 1 .. painted, n of them; how many were otherwise -/
def sk_p (c : Bool) (a : Nat) : Nat → (Nat → Int32) × Nat → (Nat → Int32) × Nat
  | 0, z => z
  | n + 1, z => sk_p c (a + 1) n (if sk_b z.1 a = c then z else (sk_x z.1 a, z.2 + 1))
set_option maxRecDepth 100000 in
theorem vX8_paint_loop (Z : mm_Z) (h : mm_H) (o j L : Nat) (c : Bool) (fr to : Int32) (X : mm_T) (b0 : Nat → Int32) (ho : h.2 o = some (.inr (8, [.ref j]))) (hj : h.2 j = some (.inl (.int, 15, .inl b0))) (hoj : o ≠ j) (hL : L < 480) (Q : mm_O → mm_H → Prop) (C : mm_Ok Z qX8_paint X) (hRm : mt_R X = mm_rm 1 0 0) :
    ∀ (n i : Nat) (z : (Nat → Int32) × Nat), i + n = L + 1 → z.2 ≤ i → Q (.inl (some (.int (nI (sk_p c i n z).2)))) (mm_up h j (.inl (.int, 15, .inl (sk_p c i n z).1))) →
      mG Z qX8_paint X 0 0 0 0 Q (19, [(0, .ref o), (1, .int fr), (2, .int to), (3, .int (sk_i c)), (4, .int (nI L)), (5, .int (nI z.2)), (6, .int (nI i))], [], mm_up h j (.inl (.int, 15, .inl z.1))) := by
  intro n
  induction n with
  | zero =>
    intro i z hi hz hQ
    refine mg_iload C rfl rfl ?_
    refine mg_iload C rfl rfl ?_
    refine mg_icmp_gt C rfl (fun c_23 => ?_) (fun c_23 => ?_)
    · refine mg_iload C rfl rfl ?_
      exact mg_ireturn C rfl (by decide) (by decide) rfl (hQ)
    · exact absurd (nI_lt (show L < i by omega) (by omega)) c_23
  | succ n ih =>
    intro i z hi hz hQ
    have hi480 : i < 480 := by omega
    have ho' : (mm_up h j (.inl (.int, 15, .inl z.1))).2 o = some (.inr (8, [.ref j])) := by rw [mm_up_ne h _ hoj]; exact ho
    have hj' : (mm_up h j (.inl (.int, 15, .inl z.1))).2 j = some (.inl (.int, 15, .inl z.1)) := mm_up_at h j _
    refine mg_iload C rfl rfl ?_
    refine mg_iload C rfl rfl ?_
    refine mg_icmp_gt C rfl (fun c_23 => ?_) (fun c_23 => ?_)
    · exact absurd c_23 (nI_nlt (show i ≤ L by omega) (by omega))
    · have hon : sk_on z.1 (nI i) = sk_b z.1 i := by
        unfold sk_on
        rw [if_neg (nI_pos (by omega)), if_pos (show nI i < 480 from nI_lt (b := 480) hi480 (by omega)), nI_clamp (by omega)]
      refine mg_aload_n C rfl rfl ?_
      refine mg_iload C rfl rfl ?_
      refine mg_invokevirtual (M' := qX8_isSun) C rfl rfl aX8_isSun iX8_isSun sX8_isSun hRm (by decide) (by decide) (by decide) (by decide) (vX8_isSun Z _ o j z.1 (nI i) ho' hj') rfl rfl (Nat.le_of_ble_eq_true rfl) (by (repeat rw [mm_up_ne _ _ (by omega)]); first | assumption | exact mm_up_at _ _ _) rfl (fun ci h' hq => absurd hq.1 (by simp)) (fun v_29 h_29 q_29 => ?_)
      obtain ⟨e_29, f_29⟩ := q_29
      cases e_29
      replace f_29 := f_29.symm
      subst f_29
      simp only [Option.toList_some, Option.toList_none, List.cons_append, List.nil_append, Nat.add_zero]
      rw [hon]
      refine mg_iload_n C rfl rfl ?_
      refine mg_icmp_eq C rfl (fun c_33 => ?_) (fun c_33 => ?_)
      · have hs : sk_b z.1 i = c := by cases h1 : sk_b z.1 i <;> cases c <;> simp_all [sk_i]
        refine mg_iinc C rfl (Nat.le_of_ble_eq_true rfl) rfl (show _ + Int32.ofInt 1 = _ + 1 by congr 1) rfl ?_
        refine mg_goto C rfl ?_
        have e6 : nI i + 1 = nI (i + 1) := nI_1 i
        have hQ' : Q (.inl (some (.int (nI (sk_p c (i + 1) n z).2)))) (mm_up h j (.inl (.int, 15, .inl (sk_p c (i + 1) n z).1))) := by
          have : sk_p c i (n + 1) z = sk_p c (i + 1) n z := by show sk_p c (i + 1) n (if sk_b z.1 i = c then z else _) = _; rw [if_pos hs]
          rw [this] at hQ; exact hQ
        have h9 := ih (i + 1) z (by omega) (by omega) hQ'
        rw [← e6] at h9
        exact h9
      · have hs : ¬ sk_b z.1 i = c := fun e => c_33 (by rw [e])
        refine mg_aload_n C rfl rfl ?_
        refine mg_getfield C rfl rfl rfl (by decide) (by (repeat rw [mm_up_ne _ _ (by omega)]); first | assumption | exact mm_up_at _ _ _) rfl ?_
        refine mg_iload C rfl rfl ?_
        refine mg_iconst (v := 5) C rfl (by decide) ?_
        refine mg_ishr C rfl ?_
        rw [s_div i hi480]
        refine mg_dup2 C rfl rfl rfl ?_
        refine mg_iaload C rfl hj' (vp_in_nI (by omega) (by omega)) ?_
        refine mg_iconst (v := 1) C rfl (by decide) ?_
        refine mg_iload C rfl rfl ?_
        refine mg_bipush (v := 31) C rfl (by decide) ?_
        refine mg_iand C rfl ?_
        rw [s_mod i hi480]
        refine mg_ishl C rfl ?_
        refine mg_ixor C rfl ?_
        refine mg_iastore C rfl hj' (vp_in_nI (by omega) (by omega)) ?_
        rw [nI_clamp (show i / 32 < 2 ^ 31 by omega), mm_up_up]
        refine mg_iinc C rfl (Nat.le_of_ble_eq_true rfl) rfl (show _ + Int32.ofInt 1 = _ + 1 by congr 1) rfl ?_
        refine mg_iinc C rfl (Nat.le_of_ble_eq_true rfl) rfl (show _ + Int32.ofInt 1 = _ + 1 by congr 1) rfl ?_
        refine mg_goto C rfl ?_
        have e6 : nI i + 1 = nI (i + 1) := nI_1 i
        have e5 : nI z.2 + 1 = nI (z.2 + 1) := nI_1 z.2
        have hQ' : Q (.inl (some (.int (nI (sk_p c (i + 1) n (sk_x z.1 i, z.2 + 1)).2)))) (mm_up h j (.inl (.int, 15, .inl (sk_p c (i + 1) n (sk_x z.1 i, z.2 + 1)).1))) := by
          have : sk_p c i (n + 1) z = sk_p c (i + 1) n (sk_x z.1 i, z.2 + 1) := by show sk_p c (i + 1) n (if sk_b z.1 i = c then z else _) = _; rw [if_neg hs]
          rw [this] at hQ; exact hQ
        have h9 := ih (i + 1) (sk_x z.1 i, z.2 + 1) (by omega) (by show z.2 + 1 ≤ i + 1; omega) hQ'
        rw [← e6] at h9
        simp only at h9
        rw [← e5] at h9
        exact h9
/-- paint: the minutes from a to t (both not below 0), as many as there are -/
def sk_paint (b : Nat → Int32) (a t : Nat) (c : Bool) : (Nat → Int32) × Nat := sk_p c a (min t 479 + 1 - a) (b, 0)
set_option maxRecDepth 100000 in
theorem vX8_paint (Z : mm_Z) (h : mm_H) (o j a t : Nat) (c : Bool) (b : Nat → Int32) (ho : h.2 o = some (.inr (8, [.ref j]))) (hj : h.2 j = some (.inl (.int, 15, .inl b))) (hoj : o ≠ j) (ha : a < 2 ^ 30) (ht : t < 2 ^ 30) :
    mC Z qX8_paint 1 0 0 [.ref o, .int (nI a), .int (nI t), .int (sk_i c)] h (fun r h' => r = .inl (some (.int (nI (sk_paint b a t c).2))) ∧ h' = mm_up h j (.inl (.int, 15, .inl (sk_paint b a t c).1))) := by
  refine mC_of gX8_paint (by decide +kernel) (Nat.le_of_ble_eq_true rfl) fun X C hRm => ?_
  refine mg_iload_n C rfl rfl ?_
  refine mg_sipush (v := 479) C rfl (by decide) ?_
  refine mg_invokestatic (M' := qJ9_min_7cf53) C rfl rfl aJ9_min_7cf53 tJ9_min_7cf53 hRm (by decide) (by decide) (by decide) (by decide) (vJ9_min Z h (nI t) 479) rfl rfl (Nat.le_of_ble_eq_true rfl) (fun ci h' hq => absurd hq.1 (by simp)) (fun v_4 h_4 q_4 => ?_)
  obtain ⟨e_4, f_4⟩ := q_4
  cases e_4
  replace f_4 := f_4.symm
  subst f_4
  simp only [Option.toList_some, Option.toList_none, List.cons_append, List.nil_append, Nat.add_zero]
  rw [show (if (479 : Int32) < nI t then (479 : Int32) else nI t) = nI (min t 479) from nI_minI (b := 479) (by omega) (by omega)]
  refine mg_istore C rfl (Nat.le_of_ble_eq_true rfl) rfl ?_
  refine mg_iconst (v := 0) C rfl (by decide) ?_
  refine mg_istore C rfl (Nat.le_of_ble_eq_true rfl) rfl ?_
  refine mg_iload_n C rfl rfl ?_
  refine mg_iconst (v := 0) C rfl (by decide) ?_
  refine mg_invokestatic (M' := qJ9_max_7cf53) C rfl rfl aJ9_max_7cf53 tJ9_max_7cf53 hRm (by decide) (by decide) (by decide) (by decide) (vJ9_max Z h (nI a) 0) rfl rfl (Nat.le_of_ble_eq_true rfl) (fun ci h' hq => absurd hq.1 (by simp)) (fun v_14 h_14 q_14 => ?_)
  obtain ⟨e_14, f_14⟩ := q_14
  cases e_14
  replace f_14 := f_14.symm
  subst f_14
  simp only [Option.toList_some, Option.toList_none, List.cons_append, List.nil_append, Nat.add_zero]
  rw [show (if nI a < (0 : Int32) then (0 : Int32) else nI a) = nI a from if_neg (nI_pos (by omega))]
  refine mg_istore C rfl (Nat.le_of_ble_eq_true rfl) rfl ?_
  by_cases hla : a ≤ min t 479
  · have h9 := vX8_paint_loop Z h o j (min t 479) c (nI a) (nI t) X b ho hj hoj (by omega) (fun r h' => r = .inl (some (.int (nI (sk_paint b a t c).2))) ∧ h' = mm_up h j (.inl (.int, 15, .inl (sk_paint b a t c).1))) C hRm (min t 479 + 1 - a) a (b, 0) (by omega) (by show 0 ≤ a; omega) ⟨rfl, rfl⟩
    rw [mm_up_self hj] at h9
    exact h9
  · have e : sk_paint b a t c = (b, 0) := by
      unfold sk_paint
      rw [show min t 479 + 1 - a = 0 by omega]; rfl
    rw [e]
    refine mg_iload C rfl rfl ?_
    refine mg_iload C rfl rfl ?_
    refine mg_icmp_gt C rfl (fun c_23 => ?_) (fun c_23 => ?_)
    · refine mg_iload C rfl rfl ?_
      exact mg_ireturn C rfl (by decide) (by decide) rfl (⟨rfl, (mm_up_self hj).symm⟩)
    · exact absurd (nI_lt (show min t 479 < a by omega) (by omega)) c_23
