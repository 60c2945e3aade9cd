/-! The JDK's String, on the constants: length, charAt, indexOf -/
theorem st_len : ∀ i, i < 37 → mm_sl.getD i 0 = (mm_sb.getD i []).length ∧ mm_sl.getD i 0 < 64 := by decide +kernel
theorem st_chr : ∀ i, i < 37 → ∀ j, j < mm_sl.getD i 0 → ((((mm_sb.getD i []).getD j 0) &&& 255).toUInt32 % 65536).toInt32 = (mm_sb.getD i []).getD j 0 ∧ narrow .char (.int ((mm_sb.getD i []).getD j 0)) = .int ((mm_sb.getD i []).getD j 0) := by decide +kernel
theorem st_fmt (Z : mm_Z) (x y : Int32) : (lg_sl [.int x, .int y, mm_fmt Z]).length ≤ 3 := by
  unfold mm_fmt
  split <;> exact Nat.le_of_ble_eq_true rfl
set_option maxRecDepth 100000 in
theorem vJ3_checkIndex (Z : mm_Z) (h : mm_H) (j n : Nat) (hj : j < n) (hn : n < 2 ^ 31) : mC Z qJ3_checkIndex_8e157 0 0 0 [.int (nI j), .int (nI n), mm_fmt Z] h (fun r h' => r = .inl (some (.int (nI j))) ∧ h' = h) := by
  refine mC_of gJ3_checkIndex_8e157 (by decide +kernel) (st_fmt Z _ _) fun X C hRm => ?_
  refine mg_iload_n C rfl rfl ?_
  refine mg_if_lt C rfl (fun c_1 => ?_) (fun c_1 => ?_)
  · exact absurd c_1 (nI_pos (by omega))
  · refine mg_iload_n C rfl rfl ?_
    refine mg_iload_n C rfl rfl ?_
    refine mg_icmp_lt C rfl (fun c_6 => ?_) (fun c_6 => ?_)
    · refine mg_iload_n C rfl rfl ?_
      exact mg_ireturn C rfl (by decide) (by decide) rfl (⟨rfl, rfl⟩)
    · exact absurd (nI_lt hj hn) c_6
set_option maxRecDepth 100000 in
theorem vJ0_checkIndex (Z : mm_Z) (h : mm_H) (j n : Nat) (hj : j < n) (hn : n < 2 ^ 31) : mC Z qJ0_checkIndex_df160 1 0 0 [.int (nI j), .int (nI n)] h (fun r h' => r = .inl none ∧ h' = h) := by
  refine mC_of gJ0_checkIndex_df160 (by decide +kernel) (Nat.le_of_ble_eq_true rfl) fun X C hRm => ?_
  refine mg_iload_n C rfl rfl ?_
  refine mg_iload_n C rfl rfl ?_
  refine mg_format C rfl rfl ?_
  refine mg_invokestatic (M' := qJ3_checkIndex_8e157) C rfl rfl aJ3_checkIndex_8e157 tJ3_checkIndex_8e157 hRm (by decide) (by decide) (by decide) (by decide) (vJ3_checkIndex Z h j n hj hn) rfl rfl (Nat.le_of_ble_eq_true rfl) (fun ci h' hq => absurd hq.1 (by simp)) (fun v_5 h_5 q_5 => ?_)
  obtain ⟨e_5, f_5⟩ := q_5
  cases e_5
  replace f_5 := f_5.symm
  subst f_5
  simp only [Option.toList_some, Option.toList_none, List.cons_append, List.nil_append, Nat.add_zero]
  refine mg_pop C rfl rfl ?_
  exact mg_return C rfl (by decide) (by decide) rfl (⟨rfl, rfl⟩)
set_option maxRecDepth 100000 in
theorem vJ1_charAt (Z : mm_Z) (h : mm_H) (i j : Nat) (hi : i < 37) (hj : j < mm_sl.getD i 0) : mC Z qJ1_charAt_3b067 2 0 0 [.ref (2000000 + i), .int (nI j)] h (fun r h' => r = .inl (some (.int ((mm_sb.getD i []).getD j 0))) ∧ h' = h) := by
  refine mC_of gJ1_charAt_3b067 (by decide +kernel) (Nat.le_of_ble_eq_true rfl) fun X C hRm => ?_
  have hl := (st_len i hi).2
  refine mg_iload_n C rfl rfl ?_
  refine mg_aload_n C rfl rfl ?_
  refine mg_sblen C rfl hi rfl ?_
  refine mg_invokestatic (M' := qJ0_checkIndex_df160) C rfl rfl aJ0_checkIndex_df160 tJ0_checkIndex_df160 hRm (by decide) (by decide) (by decide) (by decide) (vJ0_checkIndex Z h j (mm_sl.getD i 0) hj (by omega)) rfl rfl (Nat.le_of_ble_eq_true rfl) (fun ci h' hq => absurd hq.1 (by simp)) (fun v_3 h_3 q_3 => ?_)
  obtain ⟨e_3, f_3⟩ := q_3
  cases e_3
  replace f_3 := f_3.symm
  subst f_3
  simp only [Option.toList_some, Option.toList_none, List.cons_append, List.nil_append, Nat.add_zero]
  refine mg_aload_n C rfl rfl ?_
  refine mg_iload_n C rfl rfl ?_
  refine mg_sbyte C rfl hi hj (by omega) ?_
  refine mg_sipush (v := 255) C rfl (by decide) ?_
  refine mg_iand C rfl ?_
  refine mg_i2c C rfl ?_
  rw [(st_chr i hi j hj).1]
  exact mg_zreturn C rfl (by decide) (by decide) rfl (st_chr i hi j hj).2 ⟨rfl, rfl⟩
set_option maxRecDepth 100000 in
theorem vJ0_isLatin1 (Z : mm_Z) (h : mm_H) (i : Nat) (hi : i < 37) : mC Z qJ0_isLatin1_aae02 0 0 0 [.ref (1000000 + i)] h (fun r h' => r = .inl (some (.int 1)) ∧ h' = h) := by
  refine mC_of gJ0_isLatin1_aae02 (by decide +kernel) (Nat.le_of_ble_eq_true rfl) fun X C hRm => ?_
  refine mg_compact C rfl rfl ?_
  refine mg_if_eq C rfl (fun c_3 => ?_) (fun c_3 => ?_)
  · exact absurd c_3 (by decide)
  · refine mg_aload_n C rfl rfl ?_
    refine mg_scoder C rfl rfl hi ?_
    refine mg_if_ne C rfl (fun c_10 => ?_) (fun c_10 => ?_)
    · exact absurd rfl c_10
    · refine mg_iconst (v := 1) C rfl (by decide) ?_
      refine mg_goto C rfl ?_
      exact mg_zreturn C rfl (by decide) (by decide) rfl (by first | rfl | decide) (⟨rfl, rfl⟩)
set_option maxRecDepth 100000 in
theorem vJ0_coder (Z : mm_Z) (h : mm_H) (i : Nat) (hi : i < 37) : mC Z qJ0_coder_7d493 0 0 0 [.ref (1000000 + i)] h (fun r h' => r = .inl (some (.int 0)) ∧ h' = h) := by
  refine mC_of gJ0_coder_7d493 (by decide +kernel) (Nat.le_of_ble_eq_true rfl) fun X C hRm => ?_
  refine mg_compact C rfl rfl ?_
  refine mg_if_eq C rfl (fun c_3 => ?_) (fun c_3 => ?_)
  · exact absurd c_3 (by decide)
  · refine mg_aload_n C rfl rfl ?_
    refine mg_scoder C rfl rfl hi ?_
    refine mg_goto C rfl ?_
    exact mg_zreturn C rfl (by decide) (by decide) rfl (by first | rfl | decide) (⟨rfl, rfl⟩)
set_option maxRecDepth 100000 in
theorem vJ0_length (Z : mm_Z) (h : mm_H) (i : Nat) (hi : i < 37) : mC Z qJ0_length_8abf5 1 0 0 [.ref (1000000 + i)] h (fun r h' => r = .inl (some (.int (nI (mm_sl.getD i 0)))) ∧ h' = h) := by
  refine mC_of gJ0_length_8abf5 (by decide +kernel) (Nat.le_of_ble_eq_true rfl) fun X C hRm => ?_
  refine mg_aload_n C rfl rfl ?_
  refine mg_svalue C rfl rfl hi ?_
  refine mg_sblen C rfl hi rfl ?_
  refine mg_aload_n C rfl rfl ?_
  refine mg_onString (M' := qJ0_coder_7d493) C rfl rfl rfl aJ0_coder_7d493 iJ0_coder_7d493 sJ0_coder_7d493 hRm (by decide) (by decide) (by decide) (by decide) (vJ0_coder Z h i hi) rfl rfl (Nat.le_of_ble_eq_true rfl) (by first | assumption | decide) (fun ci h' hq => absurd hq.1 (by simp)) (fun v_6 h_6 q_6 => ?_)
  obtain ⟨e_6, f_6⟩ := q_6
  cases e_6
  replace f_6 := f_6.symm
  subst f_6
  simp only [Option.toList_some, Option.toList_none, List.cons_append, List.nil_append, Nat.add_zero]
  refine mg_ishr C rfl ?_
  rw [sb_shr0]
  exact mg_ireturn C rfl (by decide) (by decide) rfl (⟨rfl, rfl⟩)
set_option maxRecDepth 100000 in
theorem vJ0_charAt (Z : mm_Z) (h : mm_H) (i j : Nat) (hi : i < 37) (hj : j < mm_sl.getD i 0) : mC Z qJ0_charAt_5068e 3 0 0 [.ref (1000000 + i), .int (nI j)] h (fun r h' => r = .inl (some (.int ((mm_sb.getD i []).getD j 0))) ∧ h' = h) := by
  refine mC_of gJ0_charAt_5068e (by decide +kernel) (Nat.le_of_ble_eq_true rfl) fun X C hRm => ?_
  refine mg_aload_n C rfl rfl ?_
  refine mg_onString (M' := qJ0_isLatin1_aae02) C rfl rfl rfl aJ0_isLatin1_aae02 iJ0_isLatin1_aae02 sJ0_isLatin1_aae02 hRm (by decide) (by decide) (by decide) (by decide) (vJ0_isLatin1 Z h i hi) rfl rfl (Nat.le_of_ble_eq_true rfl) (by first | assumption | decide) (fun ci h' hq => absurd hq.1 (by simp)) (fun v_1 h_1 q_1 => ?_)
  obtain ⟨e_1, f_1⟩ := q_1
  cases e_1
  replace f_1 := f_1.symm
  subst f_1
  simp only [Option.toList_some, Option.toList_none, List.cons_append, List.nil_append, Nat.add_zero]
  refine mg_if_eq C rfl (fun c_4 => ?_) (fun c_4 => ?_)
  · exact absurd c_4 (by decide)
  · refine mg_aload_n C rfl rfl ?_
    refine mg_svalue C rfl rfl hi ?_
    refine mg_iload_n C rfl rfl ?_
    refine mg_invokestatic (M' := qJ1_charAt_3b067) C rfl rfl aJ1_charAt_3b067 tJ1_charAt_3b067 hRm (by decide) (by decide) (by decide) (by decide) (vJ1_charAt Z h i j hi hj) rfl rfl (Nat.le_of_ble_eq_true rfl) (fun ci h' hq => absurd hq.1 (by simp)) (fun v_12 h_12 q_12 => ?_)
    obtain ⟨e_12, f_12⟩ := q_12
    cases e_12
    replace f_12 := f_12.symm
    subst f_12
    simp only [Option.toList_some, Option.toList_none, List.cons_append, List.nil_append, Nat.add_zero]
    exact mg_zreturn C rfl (by decide) (by decide) rfl (st_chr i hi j hj).2 ⟨rfl, rfl⟩
set_option maxRecDepth 100000 in
theorem vJ1_canEncode (Z : mm_Z) (h : mm_H) (q : Nat) (hq : q < 256) : mC Z qJ1_canEncode_9a6ad 0 0 0 [.int (nI q)] h (fun r h' => r = .inl (some (.int 1)) ∧ h' = h) := by
  refine mC_of gJ1_canEncode_9a6ad (by decide +kernel) (Nat.le_of_ble_eq_true rfl) fun X C hRm => ?_
  refine mg_iload_n C rfl rfl ?_
  refine mg_if_lt C rfl (fun c_1 => ?_) (fun c_1 => ?_)
  · exact absurd c_1 (nI_pos (by omega))
  · refine mg_iload_n C rfl rfl ?_
    refine mg_sipush (v := 255) C rfl (by decide) ?_
    refine mg_icmp_gt C rfl (fun c_8 => ?_) (fun c_8 => ?_)
    · exact absurd c_8 (show ¬ (255 : Int32) < nI q from nI_nlt (a := 255) (b := q) (by omega) (by omega))
    · refine mg_iconst (v := 1) C rfl (by decide) ?_
      refine mg_goto C rfl ?_
      exact mg_zreturn C rfl (by decide) (by decide) rfl (by first | rfl | decide) (⟨rfl, rfl⟩)
/-- the first place from j on, n places to look at, that holds b; or -1 -/
def st_ix (l : List Int32) (b : Int32) : Nat → Nat → Int32
  | _, 0 => -1
  | j, n + 1 => if l.getD j 0 = b then nI j else st_ix l b (j + 1) n
set_option maxRecDepth 100000 in
theorem vJ1_indexOfChar (Z : mm_Z) (h : mm_H) (i : Nat) (c : Int32) (hi : i < 37) : mC Z qJ1_indexOfChar_4cfef 0 0 0 [.ref (2000000 + i), .int c, .int 0, .int (nI (mm_sl.getD i 0))] h (fun r h' => r = .inl (some (.int (st_ix (mm_sb.getD i []) c.toInt8.toInt32 0 (mm_sl.getD i 0)))) ∧ h' = h) := by
  refine mC_of gJ1_indexOfChar_4cfef (by decide +kernel) (Nat.le_of_ble_eq_true rfl) fun X C hRm => ?_
  have hl := (st_len i hi).2
  refine mg_iload_n C rfl rfl ?_
  refine mg_i2b C rfl ?_
  refine mg_istore C rfl (Nat.le_of_ble_eq_true rfl) rfl ?_
  refine mg_iload_n C rfl rfl ?_
  refine mg_istore C rfl (Nat.le_of_ble_eq_true rfl) rfl ?_
  suffices hloop : ∀ (n j : Nat), j + n = mm_sl.getD i 0 → st_ix (mm_sb.getD i []) c.toInt8.toInt32 j n = st_ix (mm_sb.getD i []) c.toInt8.toInt32 0 (mm_sl.getD i 0) →
      mG Z qJ1_indexOfChar_4cfef X 0 0 0 0 (fun r h' => r = .inl (some (.int (st_ix (mm_sb.getD i []) c.toInt8.toInt32 0 (mm_sl.getD i 0)))) ∧ h' = h) (7, [(0, .ref (2000000 + i)), (1, .int c), (2, .int 0), (3, .int (nI (mm_sl.getD i 0))), (4, .int c.toInt8.toInt32), (5, .int (nI j))], [], h) from hloop _ 0 (by omega) rfl
  intro n
  induction n with
  | zero =>
    intro j hj hs
    refine mg_iload C rfl rfl ?_
    refine mg_iload_n C rfl rfl ?_
    refine mg_icmp_ge C rfl (fun c_10 => ?_) (fun c_10 => ?_)
    · refine mg_iconst (v := (-1)) C rfl (by decide) ?_
      exact mg_ireturn C rfl (by decide) (by decide) rfl (⟨by rw [← hs]; rfl, rfl⟩)
    · exact absurd (nI_le (show mm_sl.getD i 0 ≤ j by omega) (by omega)) c_10
  | succ n ih =>
    intro j hj hs
    refine mg_iload C rfl rfl ?_
    refine mg_iload_n C rfl rfl ?_
    refine mg_icmp_ge C rfl (fun c_10 => ?_) (fun c_10 => ?_)
    · exact absurd c_10 (nI_ge (show j < mm_sl.getD i 0 by omega) (by omega))
    · refine mg_aload_n C rfl rfl ?_
      refine mg_iload C rfl rfl ?_
      refine mg_sbyte C rfl hi (by omega) (by omega) ?_
      refine mg_iload C rfl rfl ?_
      refine mg_icmp_ne C rfl (fun c_19 => ?_) (fun c_19 => ?_)
      · refine mg_iinc C rfl (Nat.le_of_ble_eq_true rfl) rfl (show _ + Int32.ofInt 1 = _ + 1 by congr 1) rfl ?_
        refine mg_goto C rfl ?_
        have e6 : nI j + 1 = nI (j + 1) := nI_1 j
        have h9 := ih (j + 1) (by omega) (by rw [← hs]; show _ = (if _ then _ else _); rw [if_neg c_19])
        rw [← e6] at h9
        exact h9
      · refine mg_iload C rfl rfl ?_
        exact mg_ireturn C rfl (by decide) (by decide) rfl (⟨by rw [← hs]; show _ = Sum.inl (some (Value.int (if _ then _ else _))); rw [if_pos c_19], rfl⟩)
set_option maxRecDepth 100000 in
theorem vJ1_indexOf (Z : mm_Z) (h : mm_H) (i q : Nat) (hi : i < 37) (hq : q < 256) (h0 : 0 < mm_sl.getD i 0) : mC Z qJ1_indexOf_4cfef 1 0 0 [.ref (2000000 + i), .int (nI q), .int 0, .int (nI (mm_sl.getD i 0))] h (fun r h' => r = .inl (some (.int (st_ix (mm_sb.getD i []) (nI q).toInt8.toInt32 0 (mm_sl.getD i 0)))) ∧ h' = h) := by
  refine mC_of gJ1_indexOf_4cfef (by decide +kernel) (Nat.le_of_ble_eq_true rfl) fun X C hRm => ?_
  have hl := (st_len i hi).2
  refine mg_iload_n C rfl rfl ?_
  refine mg_invokestatic (M' := qJ1_canEncode_9a6ad) C rfl rfl aJ1_canEncode_9a6ad tJ1_canEncode_9a6ad hRm (by decide) (by decide) (by decide) (by decide) (vJ1_canEncode Z h q hq) rfl rfl (Nat.le_of_ble_eq_true rfl) (fun ci h' hq => absurd hq.1 (by simp)) (fun v_1 h_1 q_1 => ?_)
  obtain ⟨e_1, f_1⟩ := q_1
  cases e_1
  replace f_1 := f_1.symm
  subst f_1
  simp only [Option.toList_some, Option.toList_none, List.cons_append, List.nil_append, Nat.add_zero]
  refine mg_if_ne C rfl (fun c_4 => ?_) (fun c_4 => ?_)
  · refine mg_iload_n C rfl rfl ?_
    refine mg_iconst (v := 0) C rfl (by decide) ?_
    refine mg_invokestatic (M' := qJ9_max_7cf53) C rfl rfl aJ9_max_7cf53 tJ9_max_7cf53 hRm (by decide) (by decide) (by decide) (by decide) (vJ9_max Z h 0 0) rfl rfl (Nat.le_of_ble_eq_true rfl) (fun ci h' hq => absurd hq.1 (by simp)) (fun v_11 h_11 q_11 => ?_)
    obtain ⟨e_11, f_11⟩ := q_11
    cases e_11
    replace f_11 := f_11.symm
    subst f_11
    simp only [Option.toList_some, Option.toList_none, List.cons_append, List.nil_append, Nat.add_zero]
    refine mg_istore_n C rfl (Nat.le_of_ble_eq_true rfl) rfl ?_
    refine mg_iload_n C rfl rfl ?_
    refine mg_aload_n C rfl rfl ?_
    refine mg_sblen C rfl hi rfl ?_
    refine mg_invokestatic (M' := qJ9_min_7cf53) C rfl rfl aJ9_min_7cf53 tJ9_min_7cf53 hRm (by decide) (by decide) (by decide) (by decide) (vJ9_min Z h (nI (mm_sl.getD i 0)) (nI (mm_sl.getD i 0))) rfl rfl (Nat.le_of_ble_eq_true rfl) (fun ci h' hq => absurd hq.1 (by simp)) (fun v_18 h_18 q_18 => ?_)
    obtain ⟨e_18, f_18⟩ := q_18
    cases e_18
    replace f_18 := f_18.symm
    subst f_18
    simp only [Option.toList_some, Option.toList_none, List.cons_append, List.nil_append, Nat.add_zero]
    rw [show (if nI (mm_sl.getD i 0) < nI (mm_sl.getD i 0) then nI (mm_sl.getD i 0) else nI (mm_sl.getD i 0)) = nI (mm_sl.getD i 0) from by split <;> rfl, show (if (0 : Int32) < 0 then (0 : Int32) else 0) = 0 from rfl]
    refine mg_istore_n C rfl (Nat.le_of_ble_eq_true rfl) rfl ?_
    refine mg_iload_n C rfl rfl ?_
    refine mg_iload_n C rfl rfl ?_
    refine mg_icmp_lt C rfl (fun c_24 => ?_) (fun c_24 => ?_)
    · refine mg_aload_n C rfl rfl ?_
      refine mg_iload_n C rfl rfl ?_
      refine mg_iload_n C rfl rfl ?_
      refine mg_iload_n C rfl rfl ?_
      refine mg_invokestatic (M' := qJ1_indexOfChar_4cfef) C rfl rfl aJ1_indexOfChar_4cfef tJ1_indexOfChar_4cfef hRm (by decide) (by decide) (by decide) (by decide) (vJ1_indexOfChar Z h i (nI q) hi) rfl rfl (Nat.le_of_ble_eq_true rfl) (fun ci h' hq => absurd hq.1 (by simp)) (fun v_33 h_33 q_33 => ?_)
      obtain ⟨e_33, f_33⟩ := q_33
      cases e_33
      replace f_33 := f_33.symm
      subst f_33
      simp only [Option.toList_some, Option.toList_none, List.cons_append, List.nil_append, Nat.add_zero]
      exact mg_ireturn C rfl (by decide) (by decide) rfl (⟨rfl, rfl⟩)
    · exact absurd (show (0 : Int32) < nI (mm_sl.getD i 0) from nI_lt (a := 0) h0 (by omega)) c_24
  · exact absurd c_4 (by decide)
set_option maxRecDepth 100000 in
theorem vJ0_indexOf2 (Z : mm_Z) (h : mm_H) (i q : Nat) (hi : i < 37) (hq : q < 256) (h0 : 0 < mm_sl.getD i 0) : mC Z qJ0_indexOf_7cf53 2 0 0 [.ref (1000000 + i), .int (nI q), .int 0] h (fun r h' => r = .inl (some (.int (st_ix (mm_sb.getD i []) (nI q).toInt8.toInt32 0 (mm_sl.getD i 0)))) ∧ h' = h) := by
  refine mC_of gJ0_indexOf_7cf53 (by decide +kernel) (Nat.le_of_ble_eq_true rfl) fun X C hRm => ?_
  refine mg_aload_n C rfl rfl ?_
  refine mg_onString (M' := qJ0_isLatin1_aae02) C rfl rfl rfl aJ0_isLatin1_aae02 iJ0_isLatin1_aae02 sJ0_isLatin1_aae02 hRm (by decide) (by decide) (by decide) (by decide) (vJ0_isLatin1 Z h i hi) rfl rfl (Nat.le_of_ble_eq_true rfl) (by first | assumption | decide) (fun ci h' hq => absurd hq.1 (by simp)) (fun v_1 h_1 q_1 => ?_)
  obtain ⟨e_1, f_1⟩ := q_1
  cases e_1
  replace f_1 := f_1.symm
  subst f_1
  simp only [Option.toList_some, Option.toList_none, List.cons_append, List.nil_append, Nat.add_zero]
  refine mg_if_eq C rfl (fun c_4 => ?_) (fun c_4 => ?_)
  · exact absurd c_4 (by decide)
  · refine mg_aload_n C rfl rfl ?_
    refine mg_svalue C rfl rfl hi ?_
    refine mg_iload_n C rfl rfl ?_
    refine mg_iload_n C rfl rfl ?_
    refine mg_aload_n C rfl rfl ?_
    refine mg_onString (M' := qJ0_length_8abf5) C rfl rfl rfl aJ0_length_8abf5 iJ0_length_8abf5 sJ0_length_8abf5 hRm (by decide) (by decide) (by decide) (by decide) (vJ0_length Z h i hi) rfl rfl (Nat.le_of_ble_eq_true rfl) (by first | assumption | decide) (fun ci h' hq => absurd hq.1 (by simp)) (fun v_14 h_14 q_14 => ?_)
    obtain ⟨e_14, f_14⟩ := q_14
    cases e_14
    replace f_14 := f_14.symm
    subst f_14
    simp only [Option.toList_some, Option.toList_none, List.cons_append, List.nil_append, Nat.add_zero]
    refine mg_invokestatic (M' := qJ1_indexOf_4cfef) C rfl rfl aJ1_indexOf_4cfef tJ1_indexOf_4cfef hRm (by decide) (by decide) (by decide) (by decide) (vJ1_indexOf Z h i q hi hq h0) rfl rfl (Nat.le_of_ble_eq_true rfl) (fun ci h' hq => absurd hq.1 (by simp)) (fun v_17 h_17 q_17 => ?_)
    obtain ⟨e_17, f_17⟩ := q_17
    cases e_17
    replace f_17 := f_17.symm
    subst f_17
    simp only [Option.toList_some, Option.toList_none, List.cons_append, List.nil_append, Nat.add_zero]
    refine mg_goto C rfl ?_
    exact mg_ireturn C rfl (by decide) (by decide) rfl (⟨rfl, rfl⟩)
set_option maxRecDepth 100000 in
theorem vJ0_indexOf (Z : mm_Z) (h : mm_H) (i q : Nat) (hi : i < 37) (hq : q < 256) (h0 : 0 < mm_sl.getD i 0) : mC Z qJ0_indexOf_0f7a4 3 0 0 [.ref (1000000 + i), .int (nI q)] h (fun r h' => r = .inl (some (.int (st_ix (mm_sb.getD i []) (nI q).toInt8.toInt32 0 (mm_sl.getD i 0)))) ∧ h' = h) := by
  refine mC_of gJ0_indexOf_0f7a4 (by decide +kernel) (Nat.le_of_ble_eq_true rfl) fun X C hRm => ?_
  refine mg_aload_n C rfl rfl ?_
  refine mg_iload_n C rfl rfl ?_
  refine mg_iconst (v := 0) C rfl (by decide) ?_
  refine mg_onString (M' := qJ0_indexOf_7cf53) C rfl rfl rfl aJ0_indexOf_7cf53 iJ0_indexOf_7cf53 sJ0_indexOf_7cf53 hRm (by decide) (by decide) (by decide) (by decide) (vJ0_indexOf2 Z h i q hi hq h0) rfl rfl (Nat.le_of_ble_eq_true rfl) (by first | assumption | decide) (fun ci h' hq => absurd hq.1 (by simp)) (fun v_3 h_3 q_3 => ?_)
  obtain ⟨e_3, f_3⟩ := q_3
  cases e_3
  replace f_3 := f_3.symm
  subst f_3
  simp only [Option.toList_some, Option.toList_none, List.cons_append, List.nil_append, Nat.add_zero]
  exact mg_ireturn C rfl (by decide) (by decide) rfl (⟨rfl, rfl⟩)
