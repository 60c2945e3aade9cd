/- needs: 15.acall 15.fun  -/
def bX4_clears_0 (N : Nat)  (v0 : Nat) (c : mm_C) : mR Unit :=
  Option.bind (pI c v0 4 0 (0 : Int32)) fun c1 => Option.bind (pI c1 v0 4 2 (0 : Int32)) fun c2 => some (.inl (), c2)
set_option maxRecDepth 100000 in
theorem wX4_clears_0 {Z : mm_Z} {X : mm_T} {k w mc ms d n N : Nat} {Q : mm_O → mm_H → Prop} (C : mm_Ok Z qX4_clears X) (hRm : mt_R X = mm_rm d mc ms) (hd : 1 ≤ d) (hn : n + 1 < 1000000) (hk : k + 1 ≤ mc) (hw : w + 6 ≤ ms) {v0 : Nat} {c : mm_C} (hf : hO 0 ovU n (bX4_clears_0 N  v0 c) Q) : mG Z qX4_clears X k w mc ms Q (0, [(0, .ref v0)], [], (n, c)) := by
  unfold bX4_clears_0 at hf
  refine mg_aload_n C rfl rfl ?_
  refine mg_iconst (v := 0) C rfl (by decide) ?_
  refine mh_pI C rfl rfl rfl (by decide) rfl rfl rfl hf (fun c1 hf => ?_)
  refine mg_aload_n C rfl rfl ?_
  refine mg_iconst (v := 0) C rfl (by decide) ?_
  refine mh_pI C rfl rfl rfl (by decide) rfl rfl rfl hf (fun c2 hf => ?_)
  exact mh_return C rfl (by omega) (by omega) rfl hf
def fX4_clears (N : Nat) (v0 : Nat) (c : mm_C) : mR Unit := bX4_clears_0 N v0 c
set_option maxRecDepth 100000 in
theorem wX4_clears {Z : mm_Z} {d n N : Nat} (hd : 1 ≤ d) (hn : n + 1 < 1000000) {v0 : Nat} {c : mm_C} (hs : (fX4_clears N v0 c).isSome = true) : mC Z qX4_clears d 1 6 [.ref v0] (n, c) (mP 0 ovU n (fX4_clears N v0 c)) := by
  refine mC_of gX4_clears (by decide +kernel) (Nat.le_of_ble_eq_true rfl) fun X C hRm => ?_
  have hf := hO_mP 0 ovU n hs
  have hk : 0 + 1 ≤ 1 := Nat.le_of_ble_eq_true rfl
  have hw : 0 + 6 ≤ 6 := Nat.le_of_ble_eq_true rfl
  show mG _ _ _ _ _ _ _ _ (0, [(0, .ref v0)], [], (n, c))
  exact wX4_clears_0 C hRm hd hn hk hw hf
def bX4_emits_0 (N : Nat)  (v0 : Nat) (v1 : Int32) (c : mm_C) : mR Unit :=
  Option.bind (gI c v0 4 2) fun x1 => if (700 : Int32) ≤ x1 then (some (.inl (), c)) else (Option.bind (gR c v0 4 1) fun x2 => Option.bind (gI c v0 4 2) fun x3 => Option.bind (tI c x2 x3 v1) fun c4 => Option.bind (gI c4 v0 4 2) fun x5 => Option.bind (pI c4 v0 4 2 (x5 + (1 : Int32))) fun c6 => some (.inl (), c6))
set_option maxRecDepth 100000 in
theorem wX4_emits_0 {Z : mm_Z} {X : mm_T} {k w mc ms d n N : Nat} {Q : mm_O → mm_H → Prop} (C : mm_Ok Z qX4_emits X) (hRm : mt_R X = mm_rm d mc ms) (hd : 1 ≤ d) (hn : n + 1 < 1000000) (hk : k + 1 ≤ mc) (hw : w + 6 ≤ ms) {v0 : Nat} {v1 : Int32} {c : mm_C} (hf : hO 0 ovU n (bX4_emits_0 N  v0 v1 c) Q) : mG Z qX4_emits X k w mc ms Q (0, [(0, .ref v0), (1, .int v1)], [], (n, c)) := by
  unfold bX4_emits_0 at hf
  refine mg_aload_n C rfl rfl ?_
  refine mh_gI C rfl rfl rfl (by decide) hf (fun x1 hf => ?_)
  refine mg_sipush (v := 700) C rfl (by decide) ?_
  refine mh_icmp_ge C rfl hf (fun e_7 hf => ?_) (fun e_7 hf => ?_)
  · exact mh_return C rfl (by omega) (by omega) rfl hf
  · refine mg_aload_n C rfl rfl ?_
    refine mh_gR C rfl rfl rfl (by decide) hf (fun x2 hf => ?_)
    refine mg_aload_n C rfl rfl ?_
    refine mh_gI C rfl rfl rfl (by decide) hf (fun x3 hf => ?_)
    refine mg_iload_n C rfl rfl ?_
    refine mh_tI C rfl hf (fun c4 hf => ?_)
    refine mg_aload_n C rfl rfl ?_
    refine mg_dup C rfl rfl ?_
    refine mh_gI C rfl rfl rfl (by decide) hf (fun x5 hf => ?_)
    refine mg_iconst (v := 1) C rfl (by decide) ?_
    refine mg_iadd C rfl ?_
    refine mh_pI C rfl rfl rfl (by decide) rfl rfl rfl hf (fun c6 hf => ?_)
    exact mh_return C rfl (by omega) (by omega) rfl hf
def fX4_emits (N : Nat) (v0 : Nat) (v1 : Int32) (c : mm_C) : mR Unit := bX4_emits_0 N v0 v1 c
set_option maxRecDepth 100000 in
theorem wX4_emits {Z : mm_Z} {d n N : Nat} (hd : 1 ≤ d) (hn : n + 1 < 1000000) {v0 : Nat} {v1 : Int32} {c : mm_C} (hs : (fX4_emits N v0 v1 c).isSome = true) : mC Z qX4_emits d 1 6 [.ref v0, .int v1] (n, c) (mP 0 ovU n (fX4_emits N v0 v1 c)) := by
  refine mC_of gX4_emits (by decide +kernel) (Nat.le_of_ble_eq_true rfl) fun X C hRm => ?_
  have hf := hO_mP 0 ovU n hs
  have hk : 0 + 1 ≤ 1 := Nat.le_of_ble_eq_true rfl
  have hw : 0 + 6 ≤ 6 := Nat.le_of_ble_eq_true rfl
  show mG _ _ _ _ _ _ _ _ (0, [(0, .ref v0), (1, .int v1)], [], (n, c))
  exact wX4_emits_0 C hRm hd hn hk hw hf
def bX4_endsRule_0 (N : Nat)  (v0 : Nat) (c : mm_C) : mR Unit :=
  Option.bind (gI c v0 4 0) fun x1 => if (4 : Int32) ≤ x1 then (some (.inl (), c)) else (Option.bind (gR c v0 4 3) fun x2 => Option.bind (gI c v0 4 0) fun x3 => Option.bind (gI c v0 4 2) fun x4 => Option.bind (tI c x2 x3 x4) fun c5 => Option.bind (gI c5 v0 4 0) fun x6 => Option.bind (pI c5 v0 4 0 (x6 + (1 : Int32))) fun c7 => some (.inl (), c7))
set_option maxRecDepth 100000 in
theorem wX4_endsRule_0 {Z : mm_Z} {X : mm_T} {k w mc ms d n N : Nat} {Q : mm_O → mm_H → Prop} (C : mm_Ok Z qX4_endsRule X) (hRm : mt_R X = mm_rm d mc ms) (hd : 1 ≤ d) (hn : n + 1 < 1000000) (hk : k + 1 ≤ mc) (hw : w + 6 ≤ ms) {v0 : Nat} {c : mm_C} (hf : hO 0 ovU n (bX4_endsRule_0 N  v0 c) Q) : mG Z qX4_endsRule X k w mc ms Q (0, [(0, .ref v0)], [], (n, c)) := by
  unfold bX4_endsRule_0 at hf
  refine mg_aload_n C rfl rfl ?_
  refine mh_gI C rfl rfl rfl (by decide) hf (fun x1 hf => ?_)
  refine mg_iconst (v := 4) C rfl (by decide) ?_
  refine mh_icmp_ge C rfl hf (fun e_5 hf => ?_) (fun e_5 hf => ?_)
  · exact mh_return C rfl (by omega) (by omega) rfl hf
  · refine mg_aload_n C rfl rfl ?_
    refine mh_gR C rfl rfl rfl (by decide) hf (fun x2 hf => ?_)
    refine mg_aload_n C rfl rfl ?_
    refine mh_gI C rfl rfl rfl (by decide) hf (fun x3 hf => ?_)
    refine mg_aload_n C rfl rfl ?_
    refine mh_gI C rfl rfl rfl (by decide) hf (fun x4 hf => ?_)
    refine mh_tI C rfl hf (fun c5 hf => ?_)
    refine mg_aload_n C rfl rfl ?_
    refine mg_dup C rfl rfl ?_
    refine mh_gI C rfl rfl rfl (by decide) hf (fun x6 hf => ?_)
    refine mg_iconst (v := 1) C rfl (by decide) ?_
    refine mg_iadd C rfl ?_
    refine mh_pI C rfl rfl rfl (by decide) rfl rfl rfl hf (fun c7 hf => ?_)
    exact mh_return C rfl (by omega) (by omega) rfl hf
def fX4_endsRule (N : Nat) (v0 : Nat) (c : mm_C) : mR Unit := bX4_endsRule_0 N v0 c
set_option maxRecDepth 100000 in
theorem wX4_endsRule {Z : mm_Z} {d n N : Nat} (hd : 1 ≤ d) (hn : n + 1 < 1000000) {v0 : Nat} {c : mm_C} (hs : (fX4_endsRule N v0 c).isSome = true) : mC Z qX4_endsRule d 1 6 [.ref v0] (n, c) (mP 0 ovU n (fX4_endsRule N v0 c)) := by
  refine mC_of gX4_endsRule (by decide +kernel) (Nat.le_of_ble_eq_true rfl) fun X C hRm => ?_
  have hf := hO_mP 0 ovU n hs
  have hk : 0 + 1 ≤ 1 := Nat.le_of_ble_eq_true rfl
  have hw : 0 + 6 ≤ 6 := Nat.le_of_ble_eq_true rfl
  show mG _ _ _ _ _ _ _ _ (0, [(0, .ref v0)], [], (n, c))
  exact wX4_endsRule_0 C hRm hd hn hk hw hf
def bX4_joined_110 (N : Nat)  (v1 : Int32) (v2 : Int32) (c : mm_C) : mR Int32 :=
  if ¬ v2 = 0 then (Option.bind (dvI v1 v2) fun x1 => some (.inl x1, c)) else (some (.inl (0 : Int32), c))
set_option maxRecDepth 100000 in
theorem wX4_joined_110 {Z : mm_Z} {X : mm_T} {k w mc ms d n N : Nat} {Q : mm_O → mm_H → Prop} (C : mm_Ok Z qX4_joined X) (hRm : mt_R X = mm_rm d mc ms) (hd : 1 ≤ d) (hn : n + 1 < 1000000) (hk : k + 1 ≤ mc) (hw : w + 6 ≤ ms) {v1 : Int32} {v2 : Int32} {c : mm_C} (hf : hO 0 ovI n (bX4_joined_110 N  v1 v2 c) Q) : mG Z qX4_joined X k w mc ms Q (110, [(1, .int v1), (2, .int v2)], [], (n, c)) := by
  unfold bX4_joined_110 at hf
  refine mg_iload_n C rfl rfl ?_
  refine mh_if_ne C rfl hf (fun e_111 hf => ?_) (fun e_111 hf => ?_)
  · refine mg_iload_n C rfl rfl ?_
    refine mg_iload_n C rfl rfl ?_
    refine mh_idiv C rfl hf (fun x1 hf => ?_)
    exact mh_ireturn C rfl (by omega) (by omega) rfl hf
  · refine mg_iconst (v := 0) C rfl (by decide) ?_
    refine mg_goto C rfl ?_
    exact mh_ireturn C rfl (by omega) (by omega) rfl hf
def bX4_joined_56 (N : Nat)   (c : mm_C) : mR Int32 :=
  some (.inl (1 : Int32), c)
set_option maxRecDepth 100000 in
theorem wX4_joined_56 {Z : mm_Z} {X : mm_T} {k w mc ms d n N : Nat} {Q : mm_O → mm_H → Prop} (C : mm_Ok Z qX4_joined X) (hRm : mt_R X = mm_rm d mc ms) (hd : 1 ≤ d) (hn : n + 1 < 1000000) (hk : k + 1 ≤ mc) (hw : w + 6 ≤ ms)  {c : mm_C} (hf : hO 0 ovI n (bX4_joined_56 N   c) Q) : mG Z qX4_joined X k w mc ms Q (56, [], [], (n, c)) := by
  unfold bX4_joined_56 at hf
  refine mg_iconst (v := 1) C rfl (by decide) ?_
  refine mg_goto C rfl ?_
  exact mh_ireturn C rfl (by omega) (by omega) rfl hf
def bX4_joined_0 (N : Nat)  (v0 : Int32) (v1 : Int32) (v2 : Int32) (c : mm_C) : mR Int32 :=
  if v0 = (-18 : Int32) then (some (.inl (v1 * v2), c)) else (if v0 = (-17 : Int32) then (some (.inl (v1 - v2), c)) else (if v0 = (-16 : Int32) then (some (.inl (v1 + v2), c)) else (if v0 = (-15 : Int32) then (if ¬ v1 = v2 then (some (.inl (0 : Int32), c)) else (some (.inl (1 : Int32), c))) else (if v0 = (-14 : Int32) then (if v2 ≤ v1 then (some (.inl (0 : Int32), c)) else (some (.inl (1 : Int32), c))) else (if v0 = (-13 : Int32) then (bX4_joined_110 N  v1 v2 c) else (if v0 = (-12 : Int32) then (if v1 = 0 then (some (.inl (0 : Int32), c)) else (if v2 = 0 then (some (.inl (0 : Int32), c)) else (some (.inl (1 : Int32), c)))) else (if v0 = (-11 : Int32) then (if ¬ v1 = 0 then (bX4_joined_56 N  c) else (if v2 = 0 then (some (.inl (0 : Int32), c)) else (bX4_joined_56 N  c))) else (bX4_joined_110 N  v1 v2 c))))))))
set_option maxRecDepth 100000 in
theorem wX4_joined_0 {Z : mm_Z} {X : mm_T} {k w mc ms d n N : Nat} {Q : mm_O → mm_H → Prop} (C : mm_Ok Z qX4_joined X) (hRm : mt_R X = mm_rm d mc ms) (hd : 1 ≤ d) (hn : n + 1 < 1000000) (hk : k + 1 ≤ mc) (hw : w + 6 ≤ ms) {v0 : Int32} {v1 : Int32} {v2 : Int32} {c : mm_C} (hf : hO 0 ovI n (bX4_joined_0 N  v0 v1 v2 c) Q) : mG Z qX4_joined X k w mc ms Q (0, [(0, .int v0), (1, .int v1), (2, .int v2)], [], (n, c)) := by
  unfold bX4_joined_0 at hf
  refine mg_iload_n C rfl rfl ?_
  refine mh_case hf (fun e_1 hf => ?_) (fun n_982 hf => ?_)
  · refine mg_tabIn e_1 (tgt := 106) C rfl (by decide) (by decide) rfl (by decide) ?_
    refine mg_iload_n C rfl rfl ?_
    refine mg_iload_n C rfl rfl ?_
    refine mg_imul C rfl ?_
    exact mh_ireturn C rfl (by omega) (by omega) rfl hf
  refine mh_case hf (fun e_1 hf => ?_) (fun n_983 hf => ?_)
  · refine mg_tabIn e_1 (tgt := 102) C rfl (by decide) (by decide) rfl (by decide) ?_
    refine mg_iload_n C rfl rfl ?_
    refine mg_iload_n C rfl rfl ?_
    refine mg_isub C rfl ?_
    exact mh_ireturn C rfl (by omega) (by omega) rfl hf
  refine mh_case hf (fun e_1 hf => ?_) (fun n_984 hf => ?_)
  · refine mg_tabIn e_1 (tgt := 98) C rfl (by decide) (by decide) rfl (by decide) ?_
    refine mg_iload_n C rfl rfl ?_
    refine mg_iload_n C rfl rfl ?_
    refine mg_iadd C rfl ?_
    exact mh_ireturn C rfl (by omega) (by omega) rfl hf
  refine mh_case hf (fun e_1 hf => ?_) (fun n_985 hf => ?_)
  · refine mg_tabIn e_1 (tgt := 87) C rfl (by decide) (by decide) rfl (by decide) ?_
    refine mg_iload_n C rfl rfl ?_
    refine mg_iload_n C rfl rfl ?_
    refine mh_icmp_ne C rfl hf (fun e_89 hf => ?_) (fun e_89 hf => ?_)
    · refine mg_iconst (v := 0) C rfl (by decide) ?_
      exact mh_ireturn C rfl (by omega) (by omega) rfl hf
    · refine mg_iconst (v := 1) C rfl (by decide) ?_
      refine mg_goto C rfl ?_
      exact mh_ireturn C rfl (by omega) (by omega) rfl hf
  refine mh_case hf (fun e_1 hf => ?_) (fun n_986 hf => ?_)
  · refine mg_tabIn e_1 (tgt := 76) C rfl (by decide) (by decide) rfl (by decide) ?_
    refine mg_iload_n C rfl rfl ?_
    refine mg_iload_n C rfl rfl ?_
    refine mh_icmp_ge C rfl hf (fun e_78 hf => ?_) (fun e_78 hf => ?_)
    · refine mg_iconst (v := 0) C rfl (by decide) ?_
      exact mh_ireturn C rfl (by omega) (by omega) rfl hf
    · refine mg_iconst (v := 1) C rfl (by decide) ?_
      refine mg_goto C rfl ?_
      exact mh_ireturn C rfl (by omega) (by omega) rfl hf
  refine mh_case hf (fun e_1 hf => ?_) (fun n_987 hf => ?_)
  · refine mg_tabIn e_1 (tgt := 110) C rfl (by decide) (by decide) rfl (by decide) ?_
    refine mg_sub (lv' := [(1, .int v1), (2, .int v2)]) (by simp) ?_
    exact wX4_joined_110 C hRm hd hn hk hw hf
  refine mh_case hf (fun e_1 hf => ?_) (fun n_988 hf => ?_)
  · refine mg_tabIn e_1 (tgt := 62) C rfl (by decide) (by decide) rfl (by decide) ?_
    refine mg_iload_n C rfl rfl ?_
    refine mh_if_eq C rfl hf (fun e_63 hf => ?_) (fun e_63 hf => ?_)
    · refine mg_iconst (v := 0) C rfl (by decide) ?_
      exact mh_ireturn C rfl (by omega) (by omega) rfl hf
    · refine mg_iload_n C rfl rfl ?_
      refine mh_if_eq C rfl hf (fun e_67 hf => ?_) (fun e_67 hf => ?_)
      · refine mg_iconst (v := 0) C rfl (by decide) ?_
        exact mh_ireturn C rfl (by omega) (by omega) rfl hf
      · refine mg_iconst (v := 1) C rfl (by decide) ?_
        refine mg_goto C rfl ?_
        exact mh_ireturn C rfl (by omega) (by omega) rfl hf
  refine mh_case hf (fun e_1 hf => ?_) (fun n_989 hf => ?_)
  · refine mg_tabIn e_1 (tgt := 48) C rfl (by decide) (by decide) rfl (by decide) ?_
    refine mg_iload_n C rfl rfl ?_
    refine mh_if_ne C rfl hf (fun e_49 hf => ?_) (fun e_49 hf => ?_)
    · refine mg_sub (lv' := []) (by simp) ?_
      exact wX4_joined_56 C hRm hd hn hk hw hf
    · refine mg_iload_n C rfl rfl ?_
      refine mh_if_eq C rfl hf (fun e_53 hf => ?_) (fun e_53 hf => ?_)
      · refine mg_iconst (v := 0) C rfl (by decide) ?_
        exact mh_ireturn C rfl (by omega) (by omega) rfl hf
      · refine mg_sub (lv' := []) (by simp) ?_
        exact wX4_joined_56 C hRm hd hn hk hw hf
  refine mg_tableOut (tgt := 110) C rfl (tsw_out [-18, -17, -16, -15, -14, -13, -12, -11] (by decide) (List.forall_mem_cons.mpr ⟨n_982, List.forall_mem_cons.mpr ⟨n_983, List.forall_mem_cons.mpr ⟨n_984, List.forall_mem_cons.mpr ⟨n_985, List.forall_mem_cons.mpr ⟨n_986, List.forall_mem_cons.mpr ⟨n_987, List.forall_mem_cons.mpr ⟨n_988, List.forall_mem_cons.mpr ⟨n_989, List.forall_mem_nil _⟩⟩⟩⟩⟩⟩⟩⟩)) (by decide) ?_
  refine mg_sub (lv' := [(1, .int v1), (2, .int v2)]) (by simp) ?_
  exact wX4_joined_110 C hRm hd hn hk hw hf
def fX4_joined (N : Nat) (v0 : Int32) (v1 : Int32) (v2 : Int32) (c : mm_C) : mR Int32 := bX4_joined_0 N v0 v1 v2 c
set_option maxRecDepth 100000 in
theorem wX4_joined {Z : mm_Z} {d n N : Nat} (hd : 1 ≤ d) (hn : n + 1 < 1000000) {v0 : Int32} {v1 : Int32} {v2 : Int32} {c : mm_C} (hs : (fX4_joined N v0 v1 v2 c).isSome = true) : mC Z qX4_joined d 1 6 [.int v0, .int v1, .int v2] (n, c) (mP 0 ovI n (fX4_joined N v0 v1 v2 c)) := by
  refine mC_of gX4_joined (by decide +kernel) (Nat.le_of_ble_eq_true rfl) fun X C hRm => ?_
  have hf := hO_mP 0 ovI n hs
  have hk : 0 + 1 ≤ 1 := Nat.le_of_ble_eq_true rfl
  have hw : 0 + 6 ≤ 6 := Nat.le_of_ble_eq_true rfl
  show mG _ _ _ _ _ _ _ _ (0, [(0, .int v0), (1, .int v1), (2, .int v2)], [], (n, c))
  exact wX4_joined_0 C hRm hd hn hk hw hf
def bX4_pops_0 (N : Nat)  (v0 : Nat) (c : mm_C) : mR Int32 :=
  Option.bind (gI c v0 4 5) fun x1 => if ¬ x1 = 0 then (Option.bind (gI c v0 4 5) fun x2 => Option.bind (pI c v0 4 5 (x2 - (1 : Int32))) fun c3 => Option.bind (gR c3 v0 4 4) fun x4 => Option.bind (gI c3 v0 4 5) fun x5 => Option.bind (aI c3 x4 x5) fun x6 => some (.inl x6, c3)) else (some (.inl (0 : Int32), c))
set_option maxRecDepth 100000 in
theorem wX4_pops_0 {Z : mm_Z} {X : mm_T} {k w mc ms d n N : Nat} {Q : mm_O → mm_H → Prop} (C : mm_Ok Z qX4_pops X) (hRm : mt_R X = mm_rm d mc ms) (hd : 1 ≤ d) (hn : n + 1 < 1000000) (hk : k + 1 ≤ mc) (hw : w + 6 ≤ ms) {v0 : Nat} {c : mm_C} (hf : hO 0 ovI n (bX4_pops_0 N  v0 c) Q) : mG Z qX4_pops X k w mc ms Q (0, [(0, .ref v0)], [], (n, c)) := by
  unfold bX4_pops_0 at hf
  refine mg_aload_n C rfl rfl ?_
  refine mh_gI C rfl rfl rfl (by decide) hf (fun x1 hf => ?_)
  refine mh_if_ne C rfl hf (fun e_4 hf => ?_) (fun e_4 hf => ?_)
  · refine mg_aload_n C rfl rfl ?_
    refine mg_dup C rfl rfl ?_
    refine mh_gI C rfl rfl rfl (by decide) hf (fun x2 hf => ?_)
    refine mg_iconst (v := 1) C rfl (by decide) ?_
    refine mg_isub C rfl ?_
    refine mh_pI C rfl rfl rfl (by decide) rfl rfl rfl hf (fun c3 hf => ?_)
    refine mg_aload_n C rfl rfl ?_
    refine mh_gR C rfl rfl rfl (by decide) hf (fun x4 hf => ?_)
    refine mg_aload_n C rfl rfl ?_
    refine mh_gI C rfl rfl rfl (by decide) hf (fun x5 hf => ?_)
    refine mh_aI C rfl hf (fun x6 hf => ?_)
    exact mh_ireturn C rfl (by omega) (by omega) rfl hf
  · refine mg_iconst (v := 0) C rfl (by decide) ?_
    exact mh_ireturn C rfl (by omega) (by omega) rfl hf
def fX4_pops (N : Nat) (v0 : Nat) (c : mm_C) : mR Int32 := bX4_pops_0 N v0 c
set_option maxRecDepth 100000 in
theorem wX4_pops {Z : mm_Z} {d n N : Nat} (hd : 1 ≤ d) (hn : n + 1 < 1000000) {v0 : Nat} {c : mm_C} (hs : (fX4_pops N v0 c).isSome = true) : mC Z qX4_pops d 1 6 [.ref v0] (n, c) (mP 0 ovI n (fX4_pops N v0 c)) := by
  refine mC_of gX4_pops (by decide +kernel) (Nat.le_of_ble_eq_true rfl) fun X C hRm => ?_
  have hf := hO_mP 0 ovI n hs
  have hk : 0 + 1 ≤ 1 := Nat.le_of_ble_eq_true rfl
  have hw : 0 + 6 ≤ 6 := Nat.le_of_ble_eq_true rfl
  show mG _ _ _ _ _ _ _ _ (0, [(0, .ref v0)], [], (n, c))
  exact wX4_pops_0 C hRm hd hn hk hw hf
def bX4_pushes_0 (N : Nat)  (v0 : Nat) (v1 : Int32) (c : mm_C) : mR Unit :=
  Option.bind (gI c v0 4 5) fun x1 => if (40 : Int32) ≤ x1 then (some (.inl (), c)) else (Option.bind (gR c v0 4 4) fun x2 => Option.bind (gI c v0 4 5) fun x3 => Option.bind (tI c x2 x3 v1) fun c4 => Option.bind (gI c4 v0 4 5) fun x5 => Option.bind (pI c4 v0 4 5 (x5 + (1 : Int32))) fun c6 => some (.inl (), c6))
set_option maxRecDepth 100000 in
theorem wX4_pushes_0 {Z : mm_Z} {X : mm_T} {k w mc ms d n N : Nat} {Q : mm_O → mm_H → Prop} (C : mm_Ok Z qX4_pushes X) (hRm : mt_R X = mm_rm d mc ms) (hd : 1 ≤ d) (hn : n + 1 < 1000000) (hk : k + 1 ≤ mc) (hw : w + 6 ≤ ms) {v0 : Nat} {v1 : Int32} {c : mm_C} (hf : hO 0 ovU n (bX4_pushes_0 N  v0 v1 c) Q) : mG Z qX4_pushes X k w mc ms Q (0, [(0, .ref v0), (1, .int v1)], [], (n, c)) := by
  unfold bX4_pushes_0 at hf
  refine mg_aload_n C rfl rfl ?_
  refine mh_gI C rfl rfl rfl (by decide) hf (fun x1 hf => ?_)
  refine mg_bipush (v := 40) C rfl (by decide) ?_
  refine mh_icmp_ge C rfl hf (fun e_6 hf => ?_) (fun e_6 hf => ?_)
  · exact mh_return C rfl (by omega) (by omega) rfl hf
  · refine mg_aload_n C rfl rfl ?_
    refine mh_gR C rfl rfl rfl (by decide) hf (fun x2 hf => ?_)
    refine mg_aload_n C rfl rfl ?_
    refine mh_gI C rfl rfl rfl (by decide) hf (fun x3 hf => ?_)
    refine mg_iload_n C rfl rfl ?_
    refine mh_tI C rfl hf (fun c4 hf => ?_)
    refine mg_aload_n C rfl rfl ?_
    refine mg_dup C rfl rfl ?_
    refine mh_gI C rfl rfl rfl (by decide) hf (fun x5 hf => ?_)
    refine mg_iconst (v := 1) C rfl (by decide) ?_
    refine mg_iadd C rfl ?_
    refine mh_pI C rfl rfl rfl (by decide) rfl rfl rfl hf (fun c6 hf => ?_)
    exact mh_return C rfl (by omega) (by omega) rfl hf
def fX4_pushes (N : Nat) (v0 : Nat) (v1 : Int32) (c : mm_C) : mR Unit := bX4_pushes_0 N v0 v1 c
set_option maxRecDepth 100000 in
theorem wX4_pushes {Z : mm_Z} {d n N : Nat} (hd : 1 ≤ d) (hn : n + 1 < 1000000) {v0 : Nat} {v1 : Int32} {c : mm_C} (hs : (fX4_pushes N v0 v1 c).isSome = true) : mC Z qX4_pushes d 1 6 [.ref v0, .int v1] (n, c) (mP 0 ovU n (fX4_pushes N v0 v1 c)) := by
  refine mC_of gX4_pushes (by decide +kernel) (Nat.le_of_ble_eq_true rfl) fun X C hRm => ?_
  have hf := hO_mP 0 ovU n hs
  have hk : 0 + 1 ≤ 1 := Nat.le_of_ble_eq_true rfl
  have hw : 0 + 6 ≤ 6 := Nat.le_of_ble_eq_true rfl
  show mG _ _ _ _ _ _ _ _ (0, [(0, .ref v0), (1, .int v1)], [], (n, c))
  exact wX4_pushes_0 C hRm hd hn hk hw hf
def bX4_gives_165 (N : Nat)  (v0 : Nat) (c : mm_C) : mR Int32 :=
  cV 4 v0 c (fX4_pops N v0 c) fun r1 c2 => some (.inl r1, c2)
set_option maxRecDepth 100000 in
theorem wX4_gives_165 {Z : mm_Z} {X : mm_T} {k w mc ms d n N : Nat} {Q : mm_O → mm_H → Prop} (C : mm_Ok Z qX4_gives X) (hRm : mt_R X = mm_rm d mc ms) (hd : 2 ≤ d) (hn : n + 1 < 1000000) (hk : k + 1 ≤ mc) (hw : w + 6 ≤ ms) {v0 : Nat} {c : mm_C} (hf : hO 0 ovI n (bX4_gives_165 N  v0 c) Q) : mG Z qX4_gives X k w mc ms Q (165, [(0, .ref v0)], [], (n, c)) := by
  unfold bX4_gives_165 at hf
  refine mg_aload_n C rfl rfl ?_
  refine mh_cVI (M' := qX4_pops) C rfl rfl aX4_pops iX4_pops sX4_pops hRm (by omega) (by decide) (by omega) (by omega) rfl rfl rfl (Nat.le_of_ble_eq_true rfl) rfl hf (fun hs => wX4_pops (by omega) (by omega) hs) (fun r1 c2 hf => ?_)
  exact mh_ireturn C rfl (by omega) (by omega) rfl hf
def bX4_gives_159 (N : Nat)  (k44 : Nat → Nat → Int32 → Int32 → mm_C → mR Int32) (v0 : Nat) (v2 : Nat) (v3 : Int32) (v4 : Int32) (c : mm_C) : mR Int32 :=
  k44 v0 v2 v3 (v4 + 1) c
set_option maxRecDepth 100000 in
theorem wX4_gives_159 {Z : mm_Z} {X : mm_T} {k w mc ms d n N : Nat} {Q : mm_O → mm_H → Prop} (C : mm_Ok Z qX4_gives X) (hRm : mt_R X = mm_rm d mc ms) (hd : 2 ≤ d) (hn : n + 1 < 1000000) (hk : k + 1 ≤ mc) (hw : w + 6 ≤ ms) {k44 : Nat → Nat → Int32 → Int32 → mm_C → mR Int32} (hk44 : ∀ (v0 : Nat) (v2 : Nat) (v3 : Int32) (v4 : Int32) (c : mm_C), hO 0 ovI n (k44 v0 v2 v3 v4 c) Q → mG Z qX4_gives X k w mc ms Q (44, [(0, .ref v0), (2, .ref v2), (3, .int v3), (4, .int v4)], [], (n, c))) {v0 : Nat} {v2 : Nat} {v3 : Int32} {v4 : Int32} {c : mm_C} (hf : hO 0 ovI n (bX4_gives_159 N  k44 v0 v2 v3 v4 c) Q) : mG Z qX4_gives X k w mc ms Q (159, [(0, .ref v0), (2, .ref v2), (3, .int v3), (4, .int v4)], [], (n, c)) := by
  unfold bX4_gives_159 at hf
  refine mg_iinc (lv' := [(0, .ref v0), (2, .ref v2), (3, .int v3), (4, .int (v4 + 1))]) C rfl (Nat.le_of_ble_eq_true rfl) rfl (show _ + Int32.ofInt 1 = _ + 1 by congr 1) rfl ?_
  refine mg_goto C rfl ?_
  exact hk44 _ _ _ _ _ hf
def bX4_gives_128 (N : Nat)  (k44 : Nat → Nat → Int32 → Int32 → mm_C → mR Int32) (v0 : Nat) (v2 : Nat) (v3 : Int32) (v4 : Int32) (s0 : Nat) (s1 : Int32) (c : mm_C) : mR Int32 :=
  cV 4 s0 c (fX4_pushes N s0 s1 c) fun (_ : Unit) c1 => bX4_gives_159 N  k44 v0 v2 v3 v4 c1
set_option maxRecDepth 100000 in
theorem wX4_gives_128 {Z : mm_Z} {X : mm_T} {k w mc ms d n N : Nat} {Q : mm_O → mm_H → Prop} (C : mm_Ok Z qX4_gives X) (hRm : mt_R X = mm_rm d mc ms) (hd : 2 ≤ d) (hn : n + 1 < 1000000) (hk : k + 1 ≤ mc) (hw : w + 6 ≤ ms) {k44 : Nat → Nat → Int32 → Int32 → mm_C → mR Int32} (hk44 : ∀ (v0 : Nat) (v2 : Nat) (v3 : Int32) (v4 : Int32) (c : mm_C), hO 0 ovI n (k44 v0 v2 v3 v4 c) Q → mG Z qX4_gives X k w mc ms Q (44, [(0, .ref v0), (2, .ref v2), (3, .int v3), (4, .int v4)], [], (n, c))) {v0 : Nat} {v2 : Nat} {v3 : Int32} {v4 : Int32} {s0 : Nat} {s1 : Int32} {c : mm_C} (hf : hO 0 ovI n (bX4_gives_128 N  k44 v0 v2 v3 v4 s0 s1 c) Q) : mG Z qX4_gives X k w mc ms Q (128, [(0, .ref v0), (2, .ref v2), (3, .int v3), (4, .int v4)], [.int s1, .ref s0], (n, c)) := by
  unfold bX4_gives_128 at hf
  refine mh_cVU (M' := qX4_pushes) C rfl rfl aX4_pushes iX4_pushes sX4_pushes hRm (by omega) (by decide) (by omega) (by omega) rfl rfl rfl (Nat.le_of_ble_eq_true rfl) rfl hf (fun hs => wX4_pushes (by omega) (by omega) hs) (fun c1 hf => ?_)
  refine mg_goto C rfl ?_
  exact wX4_gives_159 C hRm hd hn hk hw hk44 hf
def bX4_gives_102 (N : Nat)  (k44 : Nat → Nat → Int32 → Int32 → mm_C → mR Int32) (v0 : Nat) (v2 : Nat) (v3 : Int32) (v4 : Int32) (s0 : Nat) (s1 : Int32) (c : mm_C) : mR Int32 :=
  cV 4 s0 c (fX4_pushes N s0 s1 c) fun (_ : Unit) c1 => bX4_gives_159 N  k44 v0 v2 v3 v4 c1
set_option maxRecDepth 100000 in
theorem wX4_gives_102 {Z : mm_Z} {X : mm_T} {k w mc ms d n N : Nat} {Q : mm_O → mm_H → Prop} (C : mm_Ok Z qX4_gives X) (hRm : mt_R X = mm_rm d mc ms) (hd : 2 ≤ d) (hn : n + 1 < 1000000) (hk : k + 1 ≤ mc) (hw : w + 6 ≤ ms) {k44 : Nat → Nat → Int32 → Int32 → mm_C → mR Int32} (hk44 : ∀ (v0 : Nat) (v2 : Nat) (v3 : Int32) (v4 : Int32) (c : mm_C), hO 0 ovI n (k44 v0 v2 v3 v4 c) Q → mG Z qX4_gives X k w mc ms Q (44, [(0, .ref v0), (2, .ref v2), (3, .int v3), (4, .int v4)], [], (n, c))) {v0 : Nat} {v2 : Nat} {v3 : Int32} {v4 : Int32} {s0 : Nat} {s1 : Int32} {c : mm_C} (hf : hO 0 ovI n (bX4_gives_102 N  k44 v0 v2 v3 v4 s0 s1 c) Q) : mG Z qX4_gives X k w mc ms Q (102, [(0, .ref v0), (2, .ref v2), (3, .int v3), (4, .int v4)], [.int s1, .ref s0], (n, c)) := by
  unfold bX4_gives_102 at hf
  refine mh_cVU (M' := qX4_pushes) C rfl rfl aX4_pushes iX4_pushes sX4_pushes hRm (by omega) (by decide) (by omega) (by omega) rfl rfl rfl (Nat.le_of_ble_eq_true rfl) rfl hf (fun hs => wX4_pushes (by omega) (by omega) hs) (fun c1 hf => ?_)
  refine mg_goto C rfl ?_
  exact wX4_gives_159 C hRm hd hn hk hw hk44 hf
def bX4_gives_44 (N : Nat)  (k44 : Nat → Nat → Int32 → Int32 → mm_C → mR Int32) (v0 : Nat) (v2 : Nat) (v3 : Int32) (v4 : Int32) (c : mm_C) : mR Int32 :=
  if v3 ≤ v4 then (bX4_gives_165 N  v0 c) else (Option.bind (gR c v0 4 1) fun x1 => Option.bind (aI c x1 v4) fun x2 => if x2 < 0 then (if x2 ≤ (-11 : Int32) then (if ¬ x2 = (-13 : Int32) then (cV 4 v0 c (fX4_pops N v0 c) fun r3 c4 => cV 4 v0 c4 (fX4_pops N v0 c4) fun r5 c6 => cS (fX4_joined N x2 r5 r3 c6) fun r7 c8 => cV 4 v0 c8 (fX4_pushes N v0 r7 c8) fun (_ : Unit) c9 => bX4_gives_159 N  k44 v0 v2 v3 v4 c9) else (cV 4 v0 c (fX4_pops N v0 c) fun r10 c11 => if ¬ r10 = 0 then (bX4_gives_128 N  k44 v0 v2 v3 v4 v0 (0 : Int32) c11) else (bX4_gives_128 N  k44 v0 v2 v3 v4 v0 (1 : Int32) c11))) else (if (8 : Int32) ≤ ((-1 : Int32) - x2) then (bX4_gives_102 N  k44 v0 v2 v3 v4 v0 (0 : Int32) c) else (Option.bind (aI c v2 ((-1 : Int32) - x2)) fun x12 => bX4_gives_102 N  k44 v0 v2 v3 v4 v0 x12 c))) else (cV 4 v0 c (fX4_pushes N v0 x2 c) fun (_ : Unit) c13 => bX4_gives_159 N  k44 v0 v2 v3 v4 c13))
set_option maxRecDepth 100000 in
theorem wX4_gives_44 {Z : mm_Z} {X : mm_T} {k w mc ms d n N : Nat} {Q : mm_O → mm_H → Prop} (C : mm_Ok Z qX4_gives X) (hRm : mt_R X = mm_rm d mc ms) (hd : 2 ≤ d) (hn : n + 1 < 1000000) (hk : k + 1 ≤ mc) (hw : w + 6 ≤ ms) {k44 : Nat → Nat → Int32 → Int32 → mm_C → mR Int32} (hk44 : ∀ (v0 : Nat) (v2 : Nat) (v3 : Int32) (v4 : Int32) (c : mm_C), hO 0 ovI n (k44 v0 v2 v3 v4 c) Q → mG Z qX4_gives X k w mc ms Q (44, [(0, .ref v0), (2, .ref v2), (3, .int v3), (4, .int v4)], [], (n, c))) {v0 : Nat} {v2 : Nat} {v3 : Int32} {v4 : Int32} {c : mm_C} (hf : hO 0 ovI n (bX4_gives_44 N  k44 v0 v2 v3 v4 c) Q) : mG Z qX4_gives X k w mc ms Q (44, [(0, .ref v0), (2, .ref v2), (3, .int v3), (4, .int v4)], [], (n, c)) := by
  unfold bX4_gives_44 at hf
  refine mg_iload C rfl rfl ?_
  refine mg_iload_n C rfl rfl ?_
  refine mh_icmp_ge C rfl hf (fun e_47 hf => ?_) (fun e_47 hf => ?_)
  · refine mg_sub (lv' := [(0, .ref v0)]) (by simp) ?_
    exact wX4_gives_165 C hRm hd hn hk hw hf
  · refine mg_aload_n C rfl rfl ?_
    refine mh_gR C rfl rfl rfl (by decide) hf (fun x1 hf => ?_)
    refine mg_iload C rfl rfl ?_
    refine mh_aI C rfl hf (fun x2 hf => ?_)
    refine mg_istore (lv' := [(0, .ref v0), (2, .ref v2), (3, .int v3), (4, .int v4), (5, .int x2)]) C rfl (Nat.le_of_ble_eq_true rfl) rfl ?_
    refine mg_iload C rfl rfl ?_
    refine mh_if_lt C rfl hf (fun e_61 hf => ?_) (fun e_61 hf => ?_)
    · refine mg_iload C rfl rfl ?_
      refine mg_bipush (v := (-11)) C rfl (by decide) ?_
      refine mh_icmp_le C rfl hf (fun e_77 hf => ?_) (fun e_77 hf => ?_)
      · refine mg_iload C rfl rfl ?_
        refine mg_bipush (v := (-13)) C rfl (by decide) ?_
        refine mh_icmp_ne C rfl hf (fun e_112 hf => ?_) (fun e_112 hf => ?_)
        · refine mg_aload_n C rfl rfl ?_
          refine mh_cVI (M' := qX4_pops) C rfl rfl aX4_pops iX4_pops sX4_pops hRm (by omega) (by decide) (by omega) (by omega) rfl rfl rfl (Nat.le_of_ble_eq_true rfl) rfl hf (fun hs => wX4_pops (by omega) (by omega) hs) (fun r3 c4 hf => ?_)
          refine mg_istore (lv' := [(0, .ref v0), (2, .ref v2), (3, .int v3), (4, .int v4), (5, .int x2), (6, .int r3)]) C rfl (Nat.le_of_ble_eq_true rfl) rfl ?_
          refine mg_aload_n C rfl rfl ?_
          refine mh_cVI (M' := qX4_pops) C rfl rfl aX4_pops iX4_pops sX4_pops hRm (by omega) (by decide) (by omega) (by omega) rfl rfl rfl (Nat.le_of_ble_eq_true rfl) rfl hf (fun hs => wX4_pops (by omega) (by omega) hs) (fun r5 c6 hf => ?_)
          refine mg_istore (lv' := [(0, .ref v0), (2, .ref v2), (3, .int v3), (4, .int v4), (5, .int x2), (6, .int r3), (7, .int r5)]) C rfl (Nat.le_of_ble_eq_true rfl) rfl ?_
          refine mg_aload_n C rfl rfl ?_
          refine mg_iload C rfl rfl ?_
          refine mg_iload C rfl rfl ?_
          refine mg_iload C rfl rfl ?_
          refine mh_cSI (M' := qX4_joined) C rfl rfl aX4_joined tX4_joined hRm (by omega) (by decide) (by omega) (by omega) rfl rfl (Nat.le_of_ble_eq_true rfl) rfl hf (fun hs => wX4_joined (by omega) (by omega) hs) (fun r7 c8 hf => ?_)
          refine mh_cVU (M' := qX4_pushes) C rfl rfl aX4_pushes iX4_pushes sX4_pushes hRm (by omega) (by decide) (by omega) (by omega) rfl rfl rfl (Nat.le_of_ble_eq_true rfl) rfl hf (fun hs => wX4_pushes (by omega) (by omega) hs) (fun c9 hf => ?_)
          refine mg_sub (lv' := [(0, .ref v0), (2, .ref v2), (3, .int v3), (4, .int v4)]) (by simp) ?_
          exact wX4_gives_159 C hRm hd hn hk hw hk44 hf
        · refine mg_aload_n C rfl rfl ?_
          refine mg_aload_n C rfl rfl ?_
          refine mh_cVI (M' := qX4_pops) C rfl rfl aX4_pops iX4_pops sX4_pops hRm (by omega) (by decide) (by omega) (by omega) rfl rfl rfl (Nat.le_of_ble_eq_true rfl) rfl hf (fun hs => wX4_pops (by omega) (by omega) hs) (fun r10 c11 hf => ?_)
          refine mh_if_ne C rfl hf (fun e_120 hf => ?_) (fun e_120 hf => ?_)
          · refine mg_iconst (v := 0) C rfl (by decide) ?_
            refine mg_sub (lv' := [(0, .ref v0), (2, .ref v2), (3, .int v3), (4, .int v4)]) (by simp) ?_
            exact wX4_gives_128 C hRm hd hn hk hw hk44 hf
          · refine mg_iconst (v := 1) C rfl (by decide) ?_
            refine mg_goto C rfl ?_
            refine mg_sub (lv' := [(0, .ref v0), (2, .ref v2), (3, .int v3), (4, .int v4)]) (by simp) ?_
            exact wX4_gives_128 C hRm hd hn hk hw hk44 hf
      · refine mg_iconst (v := (-1)) C rfl (by decide) ?_
        refine mg_iload C rfl rfl ?_
        refine mg_isub C rfl ?_
        refine mg_istore (lv' := [(0, .ref v0), (2, .ref v2), (3, .int v3), (4, .int v4), (5, .int x2), (6, .int ((-1 : Int32) - x2))]) C rfl (Nat.le_of_ble_eq_true rfl) rfl ?_
        refine mg_aload_n C rfl rfl ?_
        refine mg_iload C rfl rfl ?_
        refine mg_bipush (v := 8) C rfl (by decide) ?_
        refine mh_icmp_ge C rfl hf (fun e_91 hf => ?_) (fun e_91 hf => ?_)
        · refine mg_iconst (v := 0) C rfl (by decide) ?_
          refine mg_sub (lv' := [(0, .ref v0), (2, .ref v2), (3, .int v3), (4, .int v4)]) (by simp) ?_
          exact wX4_gives_102 C hRm hd hn hk hw hk44 hf
        · refine mg_aload_n C rfl rfl ?_
          refine mg_iload C rfl rfl ?_
          refine mh_aI C rfl hf (fun x12 hf => ?_)
          refine mg_goto C rfl ?_
          refine mg_sub (lv' := [(0, .ref v0), (2, .ref v2), (3, .int v3), (4, .int v4)]) (by simp) ?_
          exact wX4_gives_102 C hRm hd hn hk hw hk44 hf
    · refine mg_aload_n C rfl rfl ?_
      refine mg_iload C rfl rfl ?_
      refine mh_cVU (M' := qX4_pushes) C rfl rfl aX4_pushes iX4_pushes sX4_pushes hRm (by omega) (by decide) (by omega) (by omega) rfl rfl rfl (Nat.le_of_ble_eq_true rfl) rfl hf (fun hs => wX4_pushes (by omega) (by omega) hs) (fun c13 hf => ?_)
      refine mg_goto C rfl ?_
      refine mg_sub (lv' := [(0, .ref v0), (2, .ref v2), (3, .int v3), (4, .int v4)]) (by simp) ?_
      exact wX4_gives_159 C hRm hd hn hk hw hk44 hf
def lX4_gives_44 (N : Nat)  : Nat → Nat → Nat → Int32 → Int32 → mm_C → mR Int32
  | 0, _, _, _, _, _ => none
  | m + 1, v0, v2, v3, v4, c => bX4_gives_44 N  (lX4_gives_44 N  m) v0 v2 v3 v4 c
theorem WX4_gives_44 {Z : mm_Z} {X : mm_T} {k w mc ms d n N : Nat} {Q : mm_O → mm_H → Prop} (C : mm_Ok Z qX4_gives X) (hRm : mt_R X = mm_rm d mc ms) (hd : 2 ≤ d) (hn : n + 1 < 1000000) (hk : k + 1 ≤ mc) (hw : w + 6 ≤ ms) : ∀ (m : Nat) {v0 : Nat} {v2 : Nat} {v3 : Int32} {v4 : Int32} {c : mm_C} (hf : hO 0 ovI n (lX4_gives_44 N  m v0 v2 v3 v4 c) Q), mG Z qX4_gives X k w mc ms Q (44, [(0, .ref v0), (2, .ref v2), (3, .int v3), (4, .int v4)], [], (n, c)) := by
  intro m
  induction m with
  | zero => intro v0 v2 v3 v4 c hf; exact absurd hf hO_none
  | succ m ih => intro v0 v2 v3 v4 c hf; exact wX4_gives_44 C hRm hd hn hk hw (fun v0 v2 v3 v4 c hf => ih hf) hf
def bX4_gives_42 (N : Nat)  (v0 : Nat) (v2 : Nat) (v3 : Int32) (s0 : Int32) (c : mm_C) : mR Int32 :=
  lX4_gives_44 N  N v0 v2 v3 s0 c
set_option maxRecDepth 100000 in
theorem wX4_gives_42 {Z : mm_Z} {X : mm_T} {k w mc ms d n N : Nat} {Q : mm_O → mm_H → Prop} (C : mm_Ok Z qX4_gives X) (hRm : mt_R X = mm_rm d mc ms) (hd : 2 ≤ d) (hn : n + 1 < 1000000) (hk : k + 1 ≤ mc) (hw : w + 6 ≤ ms) {v0 : Nat} {v2 : Nat} {v3 : Int32} {s0 : Int32} {c : mm_C} (hf : hO 0 ovI n (bX4_gives_42 N  v0 v2 v3 s0 c) Q) : mG Z qX4_gives X k w mc ms Q (42, [(0, .ref v0), (2, .ref v2), (3, .int v3)], [.int s0], (n, c)) := by
  unfold bX4_gives_42 at hf
  refine mg_istore (lv' := [(0, .ref v0), (2, .ref v2), (3, .int v3), (4, .int s0)]) C rfl (Nat.le_of_ble_eq_true rfl) rfl ?_
  exact WX4_gives_44 C hRm hd hn hk hw N hf
def bX4_gives_0 (N : Nat)  (v0 : Nat) (v1 : Int32) (v2 : Nat) (c : mm_C) : mR Int32 :=
  if v1 < 0 then (some (.inl (0 : Int32), c)) else (Option.bind (gI c v0 4 0) fun x1 => if v1 < x1 then (Option.bind (pI c v0 4 5 (0 : Int32)) fun c2 => Option.bind (gR c2 v0 4 3) fun x3 => Option.bind (aI c2 x3 v1) fun x4 => if ¬ v1 = 0 then (Option.bind (gR c2 v0 4 3) fun x5 => Option.bind (aI c2 x5 (v1 - (1 : Int32))) fun x6 => bX4_gives_42 N  v0 v2 x4 x6 c2) else (bX4_gives_42 N  v0 v2 x4 (0 : Int32) c2)) else (some (.inl (0 : Int32), c)))
set_option maxRecDepth 100000 in
theorem wX4_gives_0 {Z : mm_Z} {X : mm_T} {k w mc ms d n N : Nat} {Q : mm_O → mm_H → Prop} (C : mm_Ok Z qX4_gives X) (hRm : mt_R X = mm_rm d mc ms) (hd : 2 ≤ d) (hn : n + 1 < 1000000) (hk : k + 1 ≤ mc) (hw : w + 6 ≤ ms) {v0 : Nat} {v1 : Int32} {v2 : Nat} {c : mm_C} (hf : hO 0 ovI n (bX4_gives_0 N  v0 v1 v2 c) Q) : mG Z qX4_gives X k w mc ms Q (0, [(0, .ref v0), (1, .int v1), (2, .ref v2)], [], (n, c)) := by
  unfold bX4_gives_0 at hf
  refine mg_iload_n C rfl rfl ?_
  refine mh_if_lt C rfl hf (fun e_1 hf => ?_) (fun e_1 hf => ?_)
  · refine mg_iconst (v := 0) C rfl (by decide) ?_
    exact mh_ireturn C rfl (by omega) (by omega) rfl hf
  · refine mg_iload_n C rfl rfl ?_
    refine mg_aload_n C rfl rfl ?_
    refine mh_gI C rfl rfl rfl (by decide) hf (fun x1 hf => ?_)
    refine mh_icmp_lt C rfl hf (fun e_9 hf => ?_) (fun e_9 hf => ?_)
    · refine mg_aload_n C rfl rfl ?_
      refine mg_iconst (v := 0) C rfl (by decide) ?_
      refine mh_pI C rfl rfl rfl (by decide) rfl rfl rfl hf (fun c2 hf => ?_)
      refine mg_aload_n C rfl rfl ?_
      refine mh_gR C rfl rfl rfl (by decide) hf (fun x3 hf => ?_)
      refine mg_iload_n C rfl rfl ?_
      refine mh_aI C rfl hf (fun x4 hf => ?_)
      refine mg_istore_n (lv' := [(0, .ref v0), (1, .int v1), (2, .ref v2), (3, .int x4)]) C rfl (Nat.le_of_ble_eq_true rfl) rfl ?_
      refine mg_iload_n C rfl rfl ?_
      refine mh_if_ne C rfl hf (fun e_27 hf => ?_) (fun e_27 hf => ?_)
      · refine mg_aload_n C rfl rfl ?_
        refine mh_gR C rfl rfl rfl (by decide) hf (fun x5 hf => ?_)
        refine mg_iload_n C rfl rfl ?_
        refine mg_iconst (v := 1) C rfl (by decide) ?_
        refine mg_isub C rfl ?_
        refine mh_aI C rfl hf (fun x6 hf => ?_)
        refine mg_sub (lv' := [(0, .ref v0), (2, .ref v2), (3, .int x4)]) (by simp) ?_
        exact wX4_gives_42 C hRm hd hn hk hw hf
      · refine mg_iconst (v := 0) C rfl (by decide) ?_
        refine mg_goto C rfl ?_
        refine mg_sub (lv' := [(0, .ref v0), (2, .ref v2), (3, .int x4)]) (by simp) ?_
        exact wX4_gives_42 C hRm hd hn hk hw hf
    · refine mg_iconst (v := 0) C rfl (by decide) ?_
      exact mh_ireturn C rfl (by omega) (by omega) rfl hf
def fX4_gives (N : Nat) (v0 : Nat) (v1 : Int32) (v2 : Nat) (c : mm_C) : mR Int32 := bX4_gives_0 N v0 v1 v2 c
set_option maxRecDepth 100000 in
theorem wX4_gives {Z : mm_Z} {d n N : Nat} (hd : 2 ≤ d) (hn : n + 1 < 1000000) {v0 : Nat} {v1 : Int32} {v2 : Nat} {c : mm_C} (hs : (fX4_gives N v0 v1 v2 c).isSome = true) : mC Z qX4_gives d 1 6 [.ref v0, .int v1, .ref v2] (n, c) (mP 0 ovI n (fX4_gives N v0 v1 v2 c)) := by
  refine mC_of gX4_gives (by decide +kernel) (Nat.le_of_ble_eq_true rfl) fun X C hRm => ?_
  have hf := hO_mP 0 ovI n hs
  have hk : 0 + 1 ≤ 1 := Nat.le_of_ble_eq_true rfl
  have hw : 0 + 6 ≤ 6 := Nat.le_of_ble_eq_true rfl
  show mG _ _ _ _ _ _ _ _ (0, [(0, .ref v0), (1, .int v1), (2, .ref v2)], [], (n, c))
  exact wX4_gives_0 C hRm hd hn hk hw hf
