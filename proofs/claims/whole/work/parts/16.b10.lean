/- needs: 15.acall 15.fun  -/
def bX10_kindOf_28 (N : Nat)  (v0 : Int32) (c : mm_C) : mR Int32 :=
  Option.bind (sIx (1000000 + 1) (((v0 &&& (255 : Int32)).toUInt32 % 65536).toInt32)) fun x1 => if x1 < 0 then (some (.inl (4 : Int32), c)) else (some (.inl (3 : Int32), c))
set_option maxRecDepth 100000 in
theorem wX10_kindOf_28 {Z : mm_Z} {X : mm_T} {k w mc ms d n N : Nat} {Q : mm_O → mm_H → Prop} (C : mm_Ok Z qX10_kindOf X) (hRm : mt_R X = mm_rm d mc ms) (hd : 5 ≤ d) (hn : n + 1 < 1000000) (hk : k + 1 ≤ mc) (hw : w + 6 ≤ ms) {v0 : Int32} {c : mm_C} (hf : hO 0 ovI n (bX10_kindOf_28 N  v0 c) Q) : mG Z qX10_kindOf X k w mc ms Q (28, [(0, .int v0)], [], (n, c)) := by
  unfold bX10_kindOf_28 at hf
  refine mg_ldcS (i := 1) (tx := ";()+-*/<=") C rfl (by decide) ?_
  refine mg_iload_n C rfl rfl ?_
  refine mg_sipush (v := 255) C rfl (by decide) ?_
  refine mg_iand C rfl ?_
  refine mg_i2c C rfl ?_
  refine mh_sIx C rfl rfl hRm (by omega) (Nat.le_of_ble_eq_true rfl) (by omega) (by omega) hf (fun x1 hf => ?_)
  refine mh_if_lt C rfl hf (fun e_39 hf => ?_) (fun e_39 hf => ?_)
  · refine mg_iconst (v := 4) C rfl (by decide) ?_
    exact mh_ireturn C rfl (by omega) (by omega) rfl hf
  · refine mg_iconst (v := 3) C rfl (by decide) ?_
    refine mg_goto C rfl ?_
    exact mh_ireturn C rfl (by omega) (by omega) rfl hf
def bX10_kindOf_14 (N : Nat)  (v0 : Int32) (c : mm_C) : mR Int32 :=
  if v0 < (48 : Int32) then (bX10_kindOf_28 N  v0 c) else (if (57 : Int32) < v0 then (bX10_kindOf_28 N  v0 c) else (some (.inl (2 : Int32), c)))
set_option maxRecDepth 100000 in
theorem wX10_kindOf_14 {Z : mm_Z} {X : mm_T} {k w mc ms d n N : Nat} {Q : mm_O → mm_H → Prop} (C : mm_Ok Z qX10_kindOf X) (hRm : mt_R X = mm_rm d mc ms) (hd : 5 ≤ d) (hn : n + 1 < 1000000) (hk : k + 1 ≤ mc) (hw : w + 6 ≤ ms) {v0 : Int32} {c : mm_C} (hf : hO 0 ovI n (bX10_kindOf_14 N  v0 c) Q) : mG Z qX10_kindOf X k w mc ms Q (14, [(0, .int v0)], [], (n, c)) := by
  unfold bX10_kindOf_14 at hf
  refine mg_iload_n C rfl rfl ?_
  refine mg_bipush (v := 48) C rfl (by decide) ?_
  refine mh_icmp_lt C rfl hf (fun e_17 hf => ?_) (fun e_17 hf => ?_)
  · exact wX10_kindOf_28 C hRm hd hn hk hw hf
  · refine mg_iload_n C rfl rfl ?_
    refine mg_bipush (v := 57) C rfl (by decide) ?_
    refine mh_icmp_gt C rfl hf (fun e_23 hf => ?_) (fun e_23 hf => ?_)
    · exact wX10_kindOf_28 C hRm hd hn hk hw hf
    · refine mg_iconst (v := 2) C rfl (by decide) ?_
      exact mh_ireturn C rfl (by omega) (by omega) rfl hf
def bX10_kindOf_0 (N : Nat)  (v0 : Int32) (c : mm_C) : mR Int32 :=
  if v0 < (97 : Int32) then (bX10_kindOf_14 N  v0 c) else (if (122 : Int32) < v0 then (bX10_kindOf_14 N  v0 c) else (some (.inl (1 : Int32), c)))
set_option maxRecDepth 100000 in
theorem wX10_kindOf_0 {Z : mm_Z} {X : mm_T} {k w mc ms d n N : Nat} {Q : mm_O → mm_H → Prop} (C : mm_Ok Z qX10_kindOf X) (hRm : mt_R X = mm_rm d mc ms) (hd : 5 ≤ d) (hn : n + 1 < 1000000) (hk : k + 1 ≤ mc) (hw : w + 6 ≤ ms) {v0 : Int32} {c : mm_C} (hf : hO 0 ovI n (bX10_kindOf_0 N  v0 c) Q) : mG Z qX10_kindOf X k w mc ms Q (0, [(0, .int v0)], [], (n, c)) := by
  unfold bX10_kindOf_0 at hf
  refine mg_iload_n C rfl rfl ?_
  refine mg_bipush (v := 97) C rfl (by decide) ?_
  refine mh_icmp_lt C rfl hf (fun e_3 hf => ?_) (fun e_3 hf => ?_)
  · exact wX10_kindOf_14 C hRm hd hn hk hw hf
  · refine mg_iload_n C rfl rfl ?_
    refine mg_bipush (v := 122) C rfl (by decide) ?_
    refine mh_icmp_gt C rfl hf (fun e_9 hf => ?_) (fun e_9 hf => ?_)
    · exact wX10_kindOf_14 C hRm hd hn hk hw hf
    · refine mg_iconst (v := 1) C rfl (by decide) ?_
      exact mh_ireturn C rfl (by omega) (by omega) rfl hf
def fX10_kindOf (N : Nat) (v0 : Int32) (c : mm_C) : mR Int32 := bX10_kindOf_0 N v0 c
set_option maxRecDepth 100000 in
theorem wX10_kindOf {Z : mm_Z} {d n N : Nat} (hd : 5 ≤ d) (hn : n + 1 < 1000000) {v0 : Int32} {c : mm_C} (hs : (fX10_kindOf N v0 c).isSome = true) : mC Z qX10_kindOf d 1 6 [.int v0] (n, c) (mP 0 ovI n (fX10_kindOf N v0 c)) := by
  refine mC_of gX10_kindOf (by decide +kernel) (Nat.le_of_ble_eq_true rfl) fun X C hRm => ?_
  have hf := hO_mP 0 ovI n hs
  have hk : 0 + 1 ≤ 1 := Nat.le_of_ble_eq_true rfl
  have hw : 0 + 6 ≤ 6 := Nat.le_of_ble_eq_true rfl
  show mG _ _ _ _ _ _ _ _ (0, [(0, .int v0)], [], (n, c))
  exact wX10_kindOf_0 C hRm hd hn hk hw hf
def bX10_advances_124 (N : Nat)  (k124 : Nat → mm_C → mR Unit) (v0 : Nat) (c : mm_C) : mR Unit :=
  Option.bind (gI c v0 10 4) fun x1 => Option.bind (gI c v0 10 3) fun x2 => if x2 ≤ x1 then (some (.inl (), c)) else (Option.bind (gR c v0 10 2) fun x3 => Option.bind (gI c v0 10 4) fun x4 => Option.bind (aB c x3 x4) fun x5 => cS (fX10_kindOf N x5 c) fun r6 c7 => Option.bind (gI c7 v0 10 0) fun x8 => if ¬ r6 = x8 then (some (.inl (), c7)) else (Option.bind (gI c7 v0 10 4) fun x9 => Option.bind (pI c7 v0 10 4 (x9 + (1 : Int32))) fun c10 => k124 v0 c10))
set_option maxRecDepth 100000 in
theorem wX10_advances_124 {Z : mm_Z} {X : mm_T} {k w mc ms d n N : Nat} {Q : mm_O → mm_H → Prop} (C : mm_Ok Z qX10_advances X) (hRm : mt_R X = mm_rm d mc ms) (hd : 6 ≤ d) (hn : n + 1 < 1000000) (hk : k + 1 ≤ mc) (hw : w + 6 ≤ ms) {k124 : Nat → mm_C → mR Unit} (hk124 : ∀ (v0 : Nat) (c : mm_C), hO 0 ovU n (k124 v0 c) Q → mG Z qX10_advances X k w mc ms Q (124, [(0, .ref v0)], [], (n, c))) {v0 : Nat} {c : mm_C} (hf : hO 0 ovU n (bX10_advances_124 N  k124 v0 c) Q) : mG Z qX10_advances X k w mc ms Q (124, [(0, .ref v0)], [], (n, c)) := by
  unfold bX10_advances_124 at hf
  refine mg_aload_n C rfl rfl ?_
  refine mh_gI C rfl rfl rfl (by decide) hf (fun x1 hf => ?_)
  refine mg_aload_n C rfl rfl ?_
  refine mh_gI C rfl rfl rfl (by decide) hf (fun x2 hf => ?_)
  refine mh_icmp_ge C rfl hf (fun e_132 hf => ?_) (fun e_132 hf => ?_)
  · exact mh_return C rfl (by omega) (by omega) rfl hf
  · refine mg_aload_n C rfl rfl ?_
    refine mh_gR C rfl rfl rfl (by decide) hf (fun x3 hf => ?_)
    refine mg_aload_n C rfl rfl ?_
    refine mh_gI C rfl rfl rfl (by decide) hf (fun x4 hf => ?_)
    refine mh_aB C rfl hf (fun x5 hf => ?_)
    refine mh_cSI (M' := qX10_kindOf) C rfl rfl aX10_kindOf tX10_kindOf hRm (by omega) (by decide) (by omega) (by omega) rfl rfl (Nat.le_of_ble_eq_true rfl) rfl hf (fun hs => wX10_kindOf (by omega) (by omega) hs) (fun r6 c7 hf => ?_)
    refine mg_aload_n C rfl rfl ?_
    refine mh_gI C rfl rfl rfl (by decide) hf (fun x8 hf => ?_)
    refine mh_icmp_ne C rfl hf (fun e_151 hf => ?_) (fun e_151 hf => ?_)
    · exact mh_return C rfl (by omega) (by omega) rfl hf
    · refine mg_aload_n C rfl rfl ?_
      refine mg_dup C rfl rfl ?_
      refine mh_gI C rfl rfl rfl (by decide) hf (fun x9 hf => ?_)
      refine mg_iconst (v := 1) C rfl (by decide) ?_
      refine mg_iadd C rfl ?_
      refine mh_pI C rfl rfl rfl (by decide) rfl rfl rfl hf (fun c10 hf => ?_)
      refine mg_goto C rfl ?_
      exact hk124 _ _ hf
def lX10_advances_124 (N : Nat)  : Nat → Nat → mm_C → mR Unit
  | 0, _, _ => none
  | m + 1, v0, c => bX10_advances_124 N  (lX10_advances_124 N  m) v0 c
theorem WX10_advances_124 {Z : mm_Z} {X : mm_T} {k w mc ms d n N : Nat} {Q : mm_O → mm_H → Prop} (C : mm_Ok Z qX10_advances X) (hRm : mt_R X = mm_rm d mc ms) (hd : 6 ≤ d) (hn : n + 1 < 1000000) (hk : k + 1 ≤ mc) (hw : w + 6 ≤ ms) : ∀ (m : Nat) {v0 : Nat} {c : mm_C} (hf : hO 0 ovU n (lX10_advances_124 N  m v0 c) Q), mG Z qX10_advances X k w mc ms Q (124, [(0, .ref v0)], [], (n, c)) := by
  intro m
  induction m with
  | zero => intro v0 c hf; exact absurd hf hO_none
  | succ m ih => intro v0 c hf; exact wX10_advances_124 C hRm hd hn hk hw (fun v0 c hf => ih hf) hf
def bX10_advances_88 (N : Nat)  (v0 : Nat) (s0 : Nat) (s1 : Int32) (c : mm_C) : mR Unit :=
  Option.bind (pI c s0 10 0 s1) fun c1 => Option.bind (gI c1 v0 10 1) fun x2 => Option.bind (gI c1 v0 10 3) fun x3 => Option.bind (pI c1 v0 10 4 (mnI (x2 + (1 : Int32)) x3)) fun c4 => Option.bind (gI c4 v0 10 0) fun x5 => if x5 = (1 : Int32) then (lX10_advances_124 N  N v0 c4) else (Option.bind (gI c4 v0 10 0) fun x6 => if ¬ x6 = (2 : Int32) then (some (.inl (), c4)) else (lX10_advances_124 N  N v0 c4))
set_option maxRecDepth 100000 in
theorem wX10_advances_88 {Z : mm_Z} {X : mm_T} {k w mc ms d n N : Nat} {Q : mm_O → mm_H → Prop} (C : mm_Ok Z qX10_advances X) (hRm : mt_R X = mm_rm d mc ms) (hd : 6 ≤ d) (hn : n + 1 < 1000000) (hk : k + 1 ≤ mc) (hw : w + 6 ≤ ms) {v0 : Nat} {s0 : Nat} {s1 : Int32} {c : mm_C} (hf : hO 0 ovU n (bX10_advances_88 N  v0 s0 s1 c) Q) : mG Z qX10_advances X k w mc ms Q (88, [(0, .ref v0)], [.int s1, .ref s0], (n, c)) := by
  unfold bX10_advances_88 at hf
  refine mh_pI C rfl rfl rfl (by decide) rfl rfl rfl hf (fun c1 hf => ?_)
  refine mg_aload_n C rfl rfl ?_
  refine mg_aload_n C rfl rfl ?_
  refine mh_gI C rfl rfl rfl (by decide) hf (fun x2 hf => ?_)
  refine mg_iconst (v := 1) C rfl (by decide) ?_
  refine mg_iadd C rfl ?_
  refine mg_aload_n C rfl rfl ?_
  refine mh_gI C rfl rfl rfl (by decide) hf (fun x3 hf => ?_)
  refine mh_mnI C rfl rfl hRm (by omega) (Nat.le_of_ble_eq_true rfl) ?_
  refine mh_pI C rfl rfl rfl (by decide) rfl rfl rfl hf (fun c4 hf => ?_)
  refine mg_aload_n C rfl rfl ?_
  refine mh_gI C rfl rfl rfl (by decide) hf (fun x5 hf => ?_)
  refine mg_iconst (v := 1) C rfl (by decide) ?_
  refine mh_icmp_eq C rfl hf (fun e_113 hf => ?_) (fun e_113 hf => ?_)
  · exact WX10_advances_124 C hRm hd hn hk hw N hf
  · refine mg_aload_n C rfl rfl ?_
    refine mh_gI C rfl rfl rfl (by decide) hf (fun x6 hf => ?_)
    refine mg_iconst (v := 2) C rfl (by decide) ?_
    refine mh_icmp_ne C rfl hf (fun e_121 hf => ?_) (fun e_121 hf => ?_)
    · exact mh_return C rfl (by omega) (by omega) rfl hf
    · exact WX10_advances_124 C hRm hd hn hk hw N hf
def bX10_advances_60 (N : Nat)  (v0 : Nat) (c : mm_C) : mR Unit :=
  Option.bind (gI c v0 10 1) fun x1 => Option.bind (gI c v0 10 3) fun x2 => if x2 ≤ x1 then (bX10_advances_88 N  v0 v0 (0 : Int32) c) else (Option.bind (gR c v0 10 2) fun x3 => Option.bind (gI c v0 10 1) fun x4 => Option.bind (aB c x3 x4) fun x5 => cS (fX10_kindOf N x5 c) fun r6 c7 => bX10_advances_88 N  v0 v0 r6 c7)
set_option maxRecDepth 100000 in
theorem wX10_advances_60 {Z : mm_Z} {X : mm_T} {k w mc ms d n N : Nat} {Q : mm_O → mm_H → Prop} (C : mm_Ok Z qX10_advances X) (hRm : mt_R X = mm_rm d mc ms) (hd : 6 ≤ d) (hn : n + 1 < 1000000) (hk : k + 1 ≤ mc) (hw : w + 6 ≤ ms) {v0 : Nat} {c : mm_C} (hf : hO 0 ovU n (bX10_advances_60 N  v0 c) Q) : mG Z qX10_advances X k w mc ms Q (60, [(0, .ref v0)], [], (n, c)) := by
  unfold bX10_advances_60 at hf
  refine mg_aload_n C rfl rfl ?_
  refine mg_aload_n C rfl rfl ?_
  refine mh_gI C rfl rfl rfl (by decide) hf (fun x1 hf => ?_)
  refine mg_aload_n C rfl rfl ?_
  refine mh_gI C rfl rfl rfl (by decide) hf (fun x2 hf => ?_)
  refine mh_icmp_ge C rfl hf (fun e_69 hf => ?_) (fun e_69 hf => ?_)
  · refine mg_iconst (v := 0) C rfl (by decide) ?_
    exact wX10_advances_88 C hRm hd hn hk hw hf
  · refine mg_aload_n C rfl rfl ?_
    refine mh_gR C rfl rfl rfl (by decide) hf (fun x3 hf => ?_)
    refine mg_aload_n C rfl rfl ?_
    refine mh_gI C rfl rfl rfl (by decide) hf (fun x4 hf => ?_)
    refine mh_aB C rfl hf (fun x5 hf => ?_)
    refine mh_cSI (M' := qX10_kindOf) C rfl rfl aX10_kindOf tX10_kindOf hRm (by omega) (by decide) (by omega) (by omega) rfl rfl (Nat.le_of_ble_eq_true rfl) rfl hf (fun hs => wX10_kindOf (by omega) (by omega) hs) (fun r6 c7 hf => ?_)
    refine mg_goto C rfl ?_
    exact wX10_advances_88 C hRm hd hn hk hw hf
def bX10_advances_47 (N : Nat)  (k8 : Nat → mm_C → mR Unit) (v0 : Nat) (c : mm_C) : mR Unit :=
  Option.bind (gI c v0 10 1) fun x1 => Option.bind (pI c v0 10 1 (x1 + (1 : Int32))) fun c2 => k8 v0 c2
set_option maxRecDepth 100000 in
theorem wX10_advances_47 {Z : mm_Z} {X : mm_T} {k w mc ms d n N : Nat} {Q : mm_O → mm_H → Prop} (C : mm_Ok Z qX10_advances X) (hRm : mt_R X = mm_rm d mc ms) (hd : 6 ≤ d) (hn : n + 1 < 1000000) (hk : k + 1 ≤ mc) (hw : w + 6 ≤ ms) {k8 : Nat → mm_C → mR Unit} (hk8 : ∀ (v0 : Nat) (c : mm_C), hO 0 ovU n (k8 v0 c) Q → mG Z qX10_advances X k w mc ms Q (8, [(0, .ref v0)], [], (n, c))) {v0 : Nat} {c : mm_C} (hf : hO 0 ovU n (bX10_advances_47 N  k8 v0 c) Q) : mG Z qX10_advances X k w mc ms Q (47, [(0, .ref v0)], [], (n, c)) := by
  unfold bX10_advances_47 at hf
  refine mg_aload_n C rfl rfl ?_
  refine mg_dup C rfl rfl ?_
  refine mh_gI C rfl rfl rfl (by decide) hf (fun x1 hf => ?_)
  refine mg_iconst (v := 1) C rfl (by decide) ?_
  refine mg_iadd C rfl ?_
  refine mh_pI C rfl rfl rfl (by decide) rfl rfl rfl hf (fun c2 hf => ?_)
  refine mg_goto C rfl ?_
  exact hk8 _ _ hf
def bX10_advances_8 (N : Nat)  (k8 : Nat → mm_C → mR Unit) (v0 : Nat) (c : mm_C) : mR Unit :=
  Option.bind (gI c v0 10 1) fun x1 => Option.bind (gI c v0 10 3) fun x2 => if x2 ≤ x1 then (bX10_advances_60 N  v0 c) else (Option.bind (gR c v0 10 2) fun x3 => Option.bind (gI c v0 10 1) fun x4 => Option.bind (aB c x3 x4) fun x5 => if x5 = (32 : Int32) then (bX10_advances_47 N  k8 v0 c) else (Option.bind (gR c v0 10 2) fun x6 => Option.bind (gI c v0 10 1) fun x7 => Option.bind (aB c x6 x7) fun x8 => if ¬ x8 = (10 : Int32) then (bX10_advances_60 N  v0 c) else (bX10_advances_47 N  k8 v0 c)))
set_option maxRecDepth 100000 in
theorem wX10_advances_8 {Z : mm_Z} {X : mm_T} {k w mc ms d n N : Nat} {Q : mm_O → mm_H → Prop} (C : mm_Ok Z qX10_advances X) (hRm : mt_R X = mm_rm d mc ms) (hd : 6 ≤ d) (hn : n + 1 < 1000000) (hk : k + 1 ≤ mc) (hw : w + 6 ≤ ms) {k8 : Nat → mm_C → mR Unit} (hk8 : ∀ (v0 : Nat) (c : mm_C), hO 0 ovU n (k8 v0 c) Q → mG Z qX10_advances X k w mc ms Q (8, [(0, .ref v0)], [], (n, c))) {v0 : Nat} {c : mm_C} (hf : hO 0 ovU n (bX10_advances_8 N  k8 v0 c) Q) : mG Z qX10_advances X k w mc ms Q (8, [(0, .ref v0)], [], (n, c)) := by
  unfold bX10_advances_8 at hf
  refine mg_aload_n C rfl rfl ?_
  refine mh_gI C rfl rfl rfl (by decide) hf (fun x1 hf => ?_)
  refine mg_aload_n C rfl rfl ?_
  refine mh_gI C rfl rfl rfl (by decide) hf (fun x2 hf => ?_)
  refine mh_icmp_ge C rfl hf (fun e_16 hf => ?_) (fun e_16 hf => ?_)
  · exact wX10_advances_60 C hRm hd hn hk hw hf
  · refine mg_aload_n C rfl rfl ?_
    refine mh_gR C rfl rfl rfl (by decide) hf (fun x3 hf => ?_)
    refine mg_aload_n C rfl rfl ?_
    refine mh_gI C rfl rfl rfl (by decide) hf (fun x4 hf => ?_)
    refine mh_aB C rfl hf (fun x5 hf => ?_)
    refine mg_bipush (v := 32) C rfl (by decide) ?_
    refine mh_icmp_eq C rfl hf (fun e_30 hf => ?_) (fun e_30 hf => ?_)
    · exact wX10_advances_47 C hRm hd hn hk hw hk8 hf
    · refine mg_aload_n C rfl rfl ?_
      refine mh_gR C rfl rfl rfl (by decide) hf (fun x6 hf => ?_)
      refine mg_aload_n C rfl rfl ?_
      refine mh_gI C rfl rfl rfl (by decide) hf (fun x7 hf => ?_)
      refine mh_aB C rfl hf (fun x8 hf => ?_)
      refine mg_bipush (v := 10) C rfl (by decide) ?_
      refine mh_icmp_ne C rfl hf (fun e_44 hf => ?_) (fun e_44 hf => ?_)
      · exact wX10_advances_60 C hRm hd hn hk hw hf
      · exact wX10_advances_47 C hRm hd hn hk hw hk8 hf
def lX10_advances_8 (N : Nat)  : Nat → Nat → mm_C → mR Unit
  | 0, _, _ => none
  | m + 1, v0, c => bX10_advances_8 N  (lX10_advances_8 N  m) v0 c
theorem WX10_advances_8 {Z : mm_Z} {X : mm_T} {k w mc ms d n N : Nat} {Q : mm_O → mm_H → Prop} (C : mm_Ok Z qX10_advances X) (hRm : mt_R X = mm_rm d mc ms) (hd : 6 ≤ d) (hn : n + 1 < 1000000) (hk : k + 1 ≤ mc) (hw : w + 6 ≤ ms) : ∀ (m : Nat) {v0 : Nat} {c : mm_C} (hf : hO 0 ovU n (lX10_advances_8 N  m v0 c) Q), mG Z qX10_advances X k w mc ms Q (8, [(0, .ref v0)], [], (n, c)) := by
  intro m
  induction m with
  | zero => intro v0 c hf; exact absurd hf hO_none
  | succ m ih => intro v0 c hf; exact wX10_advances_8 C hRm hd hn hk hw (fun v0 c hf => ih hf) hf
def bX10_advances_0 (N : Nat)  (v0 : Nat) (c : mm_C) : mR Unit :=
  Option.bind (gI c v0 10 4) fun x1 => Option.bind (pI c v0 10 1 x1) fun c2 => lX10_advances_8 N  N v0 c2
set_option maxRecDepth 100000 in
theorem wX10_advances_0 {Z : mm_Z} {X : mm_T} {k w mc ms d n N : Nat} {Q : mm_O → mm_H → Prop} (C : mm_Ok Z qX10_advances X) (hRm : mt_R X = mm_rm d mc ms) (hd : 6 ≤ d) (hn : n + 1 < 1000000) (hk : k + 1 ≤ mc) (hw : w + 6 ≤ ms) {v0 : Nat} {c : mm_C} (hf : hO 0 ovU n (bX10_advances_0 N  v0 c) Q) : mG Z qX10_advances X k w mc ms Q (0, [(0, .ref v0)], [], (n, c)) := by
  unfold bX10_advances_0 at hf
  refine mg_aload_n C rfl rfl ?_
  refine mg_aload_n C rfl rfl ?_
  refine mh_gI C rfl rfl rfl (by decide) hf (fun x1 hf => ?_)
  refine mh_pI C rfl rfl rfl (by decide) rfl rfl rfl hf (fun c2 hf => ?_)
  exact WX10_advances_8 C hRm hd hn hk hw N hf
def fX10_advances (N : Nat) (v0 : Nat) (c : mm_C) : mR Unit := bX10_advances_0 N v0 c
set_option maxRecDepth 100000 in
theorem wX10_advances {Z : mm_Z} {d n N : Nat} (hd : 6 ≤ d) (hn : n + 1 < 1000000) {v0 : Nat} {c : mm_C} (hs : (fX10_advances N v0 c).isSome = true) : mC Z qX10_advances d 1 6 [.ref v0] (n, c) (mP 0 ovU n (fX10_advances N v0 c)) := by
  refine mC_of gX10_advances (by decide +kernel) (Nat.le_of_ble_eq_true rfl) fun X C hRm => ?_
  have hf := hO_mP 0 ovU n hs
  have hk : 0 + 1 ≤ 1 := Nat.le_of_ble_eq_true rfl
  have hw : 0 + 6 ≤ 6 := Nat.le_of_ble_eq_true rfl
  show mG _ _ _ _ _ _ _ _ (0, [(0, .ref v0)], [], (n, c))
  exact wX10_advances_0 C hRm hd hn hk hw hf
def bX10_begins_0 (N : Nat)  (v0 : Nat) (v1 : Nat) (v2 : Int32) (c : mm_C) : mR Unit :=
  Option.bind (aN c v1) fun x1 => Option.bind (pI c v0 10 3 (mxI (0 : Int32) (mnI v2 (mnI x1 (700 : Int32))))) fun c2 => Option.bind (gR c2 v0 10 2) fun x3 => Option.bind (gI c2 v0 10 3) fun x4 => Option.bind (cpA .byte c2 v1 (0 : Int32) x3 (0 : Int32) x4) fun c5 => Option.bind (pI c5 v0 10 4 (0 : Int32)) fun c6 => cV 10 v0 c6 (fX10_advances N v0 c6) fun (_ : Unit) c7 => some (.inl (), c7)
set_option maxRecDepth 100000 in
theorem wX10_begins_0 {Z : mm_Z} {X : mm_T} {k w mc ms d n N : Nat} {Q : mm_O → mm_H → Prop} (C : mm_Ok Z qX10_begins X) (hRm : mt_R X = mm_rm d mc ms) (hd : 7 ≤ d) (hn : n + 1 < 1000000) (hk : k + 1 ≤ mc) (hw : w + 6 ≤ ms) {v0 : Nat} {v1 : Nat} {v2 : Int32} {c : mm_C} (hf : hO 0 ovU n (bX10_begins_0 N  v0 v1 v2 c) Q) : mG Z qX10_begins X k w mc ms Q (0, [(0, .ref v0), (1, .ref v1), (2, .int v2)], [], (n, c)) := by
  unfold bX10_begins_0 at hf
  refine mg_aload_n C rfl rfl ?_
  refine mg_iconst (v := 0) C rfl (by decide) ?_
  refine mg_iload_n C rfl rfl ?_
  refine mg_aload_n C rfl rfl ?_
  refine mh_aN C rfl hf (fun x1 hf => ?_)
  refine mg_sipush (v := 700) C rfl (by decide) ?_
  refine mh_mnI C rfl rfl hRm (by omega) (Nat.le_of_ble_eq_true rfl) ?_
  refine mh_mnI C rfl rfl hRm (by omega) (Nat.le_of_ble_eq_true rfl) ?_
  refine mh_mxI C rfl rfl hRm (by omega) (Nat.le_of_ble_eq_true rfl) ?_
  refine mh_pI C rfl rfl rfl (by decide) rfl rfl rfl hf (fun c2 hf => ?_)
  refine mg_aload_n C rfl rfl ?_
  refine mg_iconst (v := 0) C rfl (by decide) ?_
  refine mg_aload_n C rfl rfl ?_
  refine mh_gR C rfl rfl rfl (by decide) hf (fun x3 hf => ?_)
  refine mg_iconst (v := 0) C rfl (by decide) ?_
  refine mg_aload_n C rfl rfl ?_
  refine mh_gI C rfl rfl rfl (by decide) hf (fun x4 hf => ?_)
  refine mh_cpA (ti := 2) C rfl rfl rfl rfl hRm (by omega) (Nat.le_of_ble_eq_true rfl) hf (fun c5 hf => ?_)
  refine mg_aload_n C rfl rfl ?_
  refine mg_iconst (v := 0) C rfl (by decide) ?_
  refine mh_pI C rfl rfl rfl (by decide) rfl rfl rfl hf (fun c6 hf => ?_)
  refine mg_aload_n C rfl rfl ?_
  refine mh_cVU (M' := qX10_advances) C rfl rfl aX10_advances iX10_advances sX10_advances hRm (by omega) (by decide) (by omega) (by omega) rfl rfl rfl (Nat.le_of_ble_eq_true rfl) rfl hf (fun hs => wX10_advances (by omega) (by omega) hs) (fun c7 hf => ?_)
  exact mh_return C rfl (by omega) (by omega) rfl hf
def fX10_begins (N : Nat) (v0 : Nat) (v1 : Nat) (v2 : Int32) (c : mm_C) : mR Unit := bX10_begins_0 N v0 v1 v2 c
set_option maxRecDepth 100000 in
theorem wX10_begins {Z : mm_Z} {d n N : Nat} (hd : 7 ≤ d) (hn : n + 1 < 1000000) {v0 : Nat} {v1 : Nat} {v2 : Int32} {c : mm_C} (hs : (fX10_begins N v0 v1 v2 c).isSome = true) : mC Z qX10_begins d 1 6 [.ref v0, .ref v1, .int v2] (n, c) (mP 0 ovU n (fX10_begins N v0 v1 v2 c)) := by
  refine mC_of gX10_begins (by decide +kernel) (Nat.le_of_ble_eq_true rfl) fun X C hRm => ?_
  have hf := hO_mP 0 ovU n hs
  have hk : 0 + 1 ≤ 1 := Nat.le_of_ble_eq_true rfl
  have hw : 0 + 6 ≤ 6 := Nat.le_of_ble_eq_true rfl
  show mG _ _ _ _ _ _ _ _ (0, [(0, .ref v0), (1, .ref v1), (2, .int v2)], [], (n, c))
  exact wX10_begins_0 C hRm hd hn hk hw hf
def bX10_isTooLong_0 (N : Nat)  (v0 : Nat) (c : mm_C) : mR Int32 :=
  Option.bind (gI c v0 10 4) fun x1 => Option.bind (gI c v0 10 1) fun x2 => if (x1 - x2) ≤ (4 : Int32) then (rZ (0 : Int32) c) else (rZ (1 : Int32) c)
set_option maxRecDepth 100000 in
theorem wX10_isTooLong_0 {Z : mm_Z} {X : mm_T} {k w mc ms d n N : Nat} {Q : mm_O → mm_H → Prop} (C : mm_Ok Z qX10_isTooLong X) (hRm : mt_R X = mm_rm d mc ms) (hd : 1 ≤ d) (hn : n + 1 < 1000000) (hk : k + 1 ≤ mc) (hw : w + 6 ≤ ms) {v0 : Nat} {c : mm_C} (hf : hO 0 ovI n (bX10_isTooLong_0 N  v0 c) Q) : mG Z qX10_isTooLong X k w mc ms Q (0, [(0, .ref v0)], [], (n, c)) := by
  unfold bX10_isTooLong_0 at hf
  refine mg_aload_n C rfl rfl ?_
  refine mh_gI C rfl rfl rfl (by decide) hf (fun x1 hf => ?_)
  refine mg_aload_n C rfl rfl ?_
  refine mh_gI C rfl rfl rfl (by decide) hf (fun x2 hf => ?_)
  refine mg_isub C rfl ?_
  refine mg_iconst (v := 4) C rfl (by decide) ?_
  refine mh_icmp_le C rfl hf (fun e_10 hf => ?_) (fun e_10 hf => ?_)
  · refine mg_iconst (v := 0) C rfl (by decide) ?_
    exact mh_zreturn C rfl (by omega) (by omega) rfl hf
  · refine mg_iconst (v := 1) C rfl (by decide) ?_
    refine mg_goto C rfl ?_
    exact mh_zreturn C rfl (by omega) (by omega) rfl hf
def fX10_isTooLong (N : Nat) (v0 : Nat) (c : mm_C) : mR Int32 := bX10_isTooLong_0 N v0 c
set_option maxRecDepth 100000 in
theorem wX10_isTooLong {Z : mm_Z} {d n N : Nat} (hd : 1 ≤ d) (hn : n + 1 < 1000000) {v0 : Nat} {c : mm_C} (hs : (fX10_isTooLong N v0 c).isSome = true) : mC Z qX10_isTooLong d 1 6 [.ref v0] (n, c) (mP 0 ovI n (fX10_isTooLong N v0 c)) := by
  refine mC_of gX10_isTooLong (by decide +kernel) (Nat.le_of_ble_eq_true rfl) fun X C hRm => ?_
  have hf := hO_mP 0 ovI n hs
  have hk : 0 + 1 ≤ 1 := Nat.le_of_ble_eq_true rfl
  have hw : 0 + 6 ≤ 6 := Nat.le_of_ble_eq_true rfl
  show mG _ _ _ _ _ _ _ _ (0, [(0, .ref v0)], [], (n, c))
  exact wX10_isTooLong_0 C hRm hd hn hk hw hf
def bX10_number_46 (N : Nat)  (v1 : Int32) (c : mm_C) : mR Int32 :=
  some (.inl v1, c)
set_option maxRecDepth 100000 in
theorem wX10_number_46 {Z : mm_Z} {X : mm_T} {k w mc ms d n N : Nat} {Q : mm_O → mm_H → Prop} (C : mm_Ok Z qX10_number X) (hRm : mt_R X = mm_rm d mc ms) (hd : 1 ≤ d) (hn : n + 1 < 1000000) (hk : k + 1 ≤ mc) (hw : w + 6 ≤ ms) {v1 : Int32} {c : mm_C} (hf : hO 0 ovI n (bX10_number_46 N  v1 c) Q) : mG Z qX10_number X k w mc ms Q (46, [(1, .int v1)], [], (n, c)) := by
  unfold bX10_number_46 at hf
  refine mg_iload_n C rfl rfl ?_
  exact mh_ireturn C rfl (by omega) (by omega) rfl hf
def bX10_number_7 (N : Nat)  (k7 : Nat → Int32 → Int32 → mm_C → mR Int32) (v0 : Nat) (v1 : Int32) (v2 : Int32) (c : mm_C) : mR Int32 :=
  Option.bind (gI c v0 10 4) fun x1 => if x1 ≤ v2 then (bX10_number_46 N  v1 c) else (Option.bind (gI c v0 10 1) fun x2 => if (x2 + (4 : Int32)) ≤ v2 then (bX10_number_46 N  v1 c) else (Option.bind (gR c v0 10 2) fun x3 => Option.bind (aB c x3 v2) fun x4 => k7 v0 (((v1 * (10 : Int32)) + x4) - (48 : Int32)) (v2 + 1) c))
set_option maxRecDepth 100000 in
theorem wX10_number_7 {Z : mm_Z} {X : mm_T} {k w mc ms d n N : Nat} {Q : mm_O → mm_H → Prop} (C : mm_Ok Z qX10_number X) (hRm : mt_R X = mm_rm d mc ms) (hd : 1 ≤ d) (hn : n + 1 < 1000000) (hk : k + 1 ≤ mc) (hw : w + 6 ≤ ms) {k7 : Nat → Int32 → Int32 → mm_C → mR Int32} (hk7 : ∀ (v0 : Nat) (v1 : Int32) (v2 : Int32) (c : mm_C), hO 0 ovI n (k7 v0 v1 v2 c) Q → mG Z qX10_number X k w mc ms Q (7, [(0, .ref v0), (1, .int v1), (2, .int v2)], [], (n, c))) {v0 : Nat} {v1 : Int32} {v2 : Int32} {c : mm_C} (hf : hO 0 ovI n (bX10_number_7 N  k7 v0 v1 v2 c) Q) : mG Z qX10_number X k w mc ms Q (7, [(0, .ref v0), (1, .int v1), (2, .int v2)], [], (n, c)) := by
  unfold bX10_number_7 at hf
  refine mg_iload_n C rfl rfl ?_
  refine mg_aload_n C rfl rfl ?_
  refine mh_gI C rfl rfl rfl (by decide) hf (fun x1 hf => ?_)
  refine mh_icmp_ge C rfl hf (fun e_12 hf => ?_) (fun e_12 hf => ?_)
  · refine mg_sub (lv' := [(1, .int v1)]) (by simp) ?_
    exact wX10_number_46 C hRm hd hn hk hw hf
  · refine mg_iload_n C rfl rfl ?_
    refine mg_aload_n C rfl rfl ?_
    refine mh_gI C rfl rfl rfl (by decide) hf (fun x2 hf => ?_)
    refine mg_iconst (v := 4) C rfl (by decide) ?_
    refine mg_iadd C rfl ?_
    refine mh_icmp_ge C rfl hf (fun e_22 hf => ?_) (fun e_22 hf => ?_)
    · refine mg_sub (lv' := [(1, .int v1)]) (by simp) ?_
      exact wX10_number_46 C hRm hd hn hk hw hf
    · refine mg_iload_n C rfl rfl ?_
      refine mg_bipush (v := 10) C rfl (by decide) ?_
      refine mg_imul C rfl ?_
      refine mg_aload_n C rfl rfl ?_
      refine mh_gR C rfl rfl rfl (by decide) hf (fun x3 hf => ?_)
      refine mg_iload_n C rfl rfl ?_
      refine mh_aB C rfl hf (fun x4 hf => ?_)
      refine mg_iadd C rfl ?_
      refine mg_bipush (v := 48) C rfl (by decide) ?_
      refine mg_isub C rfl ?_
      refine mg_istore_n (lv' := [(0, .ref v0), (1, .int (((v1 * (10 : Int32)) + x4) - (48 : Int32))), (2, .int v2)]) C rfl (Nat.le_of_ble_eq_true rfl) rfl ?_
      refine mg_iinc (lv' := [(0, .ref v0), (1, .int (((v1 * (10 : Int32)) + x4) - (48 : Int32))), (2, .int (v2 + 1))]) C rfl (Nat.le_of_ble_eq_true rfl) rfl (show _ + Int32.ofInt 1 = _ + 1 by congr 1) rfl ?_
      refine mg_goto C rfl ?_
      exact hk7 _ _ _ _ hf
def lX10_number_7 (N : Nat)  : Nat → Nat → Int32 → Int32 → mm_C → mR Int32
  | 0, _, _, _, _ => none
  | m + 1, v0, v1, v2, c => bX10_number_7 N  (lX10_number_7 N  m) v0 v1 v2 c
theorem WX10_number_7 {Z : mm_Z} {X : mm_T} {k w mc ms d n N : Nat} {Q : mm_O → mm_H → Prop} (C : mm_Ok Z qX10_number X) (hRm : mt_R X = mm_rm d mc ms) (hd : 1 ≤ d) (hn : n + 1 < 1000000) (hk : k + 1 ≤ mc) (hw : w + 6 ≤ ms) : ∀ (m : Nat) {v0 : Nat} {v1 : Int32} {v2 : Int32} {c : mm_C} (hf : hO 0 ovI n (lX10_number_7 N  m v0 v1 v2 c) Q), mG Z qX10_number X k w mc ms Q (7, [(0, .ref v0), (1, .int v1), (2, .int v2)], [], (n, c)) := by
  intro m
  induction m with
  | zero => intro v0 v1 v2 c hf; exact absurd hf hO_none
  | succ m ih => intro v0 v1 v2 c hf; exact wX10_number_7 C hRm hd hn hk hw (fun v0 v1 v2 c hf => ih hf) hf
def bX10_number_0 (N : Nat)  (v0 : Nat) (c : mm_C) : mR Int32 :=
  Option.bind (gI c v0 10 1) fun x1 => lX10_number_7 N  N v0 (0 : Int32) x1 c
set_option maxRecDepth 100000 in
theorem wX10_number_0 {Z : mm_Z} {X : mm_T} {k w mc ms d n N : Nat} {Q : mm_O → mm_H → Prop} (C : mm_Ok Z qX10_number X) (hRm : mt_R X = mm_rm d mc ms) (hd : 1 ≤ d) (hn : n + 1 < 1000000) (hk : k + 1 ≤ mc) (hw : w + 6 ≤ ms) {v0 : Nat} {c : mm_C} (hf : hO 0 ovI n (bX10_number_0 N  v0 c) Q) : mG Z qX10_number X k w mc ms Q (0, [(0, .ref v0)], [], (n, c)) := by
  unfold bX10_number_0 at hf
  refine mg_iconst (v := 0) C rfl (by decide) ?_
  refine mg_istore_n (lv' := [(0, .ref v0), (1, .int (0 : Int32))]) C rfl (Nat.le_of_ble_eq_true rfl) rfl ?_
  refine mg_aload_n C rfl rfl ?_
  refine mh_gI C rfl rfl rfl (by decide) hf (fun x1 hf => ?_)
  refine mg_istore_n (lv' := [(0, .ref v0), (1, .int (0 : Int32)), (2, .int x1)]) C rfl (Nat.le_of_ble_eq_true rfl) rfl ?_
  exact WX10_number_7 C hRm hd hn hk hw N hf
def fX10_number (N : Nat) (v0 : Nat) (c : mm_C) : mR Int32 := bX10_number_0 N v0 c
set_option maxRecDepth 100000 in
theorem wX10_number {Z : mm_Z} {d n N : Nat} (hd : 1 ≤ d) (hn : n + 1 < 1000000) {v0 : Nat} {c : mm_C} (hs : (fX10_number N v0 c).isSome = true) : mC Z qX10_number d 1 6 [.ref v0] (n, c) (mP 0 ovI n (fX10_number N v0 c)) := by
  refine mC_of gX10_number (by decide +kernel) (Nat.le_of_ble_eq_true rfl) fun X C hRm => ?_
  have hf := hO_mP 0 ovI n hs
  have hk : 0 + 1 ≤ 1 := Nat.le_of_ble_eq_true rfl
  have hw : 0 + 6 ≤ 6 := Nat.le_of_ble_eq_true rfl
  show mG _ _ _ _ _ _ _ _ (0, [(0, .ref v0)], [], (n, c))
  exact wX10_number_0 C hRm hd hn hk hw hf
def bX10_isSign_0 (N : Nat)  (v0 : Nat) (v1 : Int32) (c : mm_C) : mR Int32 :=
  Option.bind (gI c v0 10 0) fun x1 => if ¬ x1 = (3 : Int32) then (rZ (0 : Int32) c) else (Option.bind (gR c v0 10 2) fun x2 => Option.bind (gI c v0 10 1) fun x3 => Option.bind (aB c x2 x3) fun x4 => if ¬ x4 = v1 then (rZ (0 : Int32) c) else (rZ (1 : Int32) c))
set_option maxRecDepth 100000 in
theorem wX10_isSign_0 {Z : mm_Z} {X : mm_T} {k w mc ms d n N : Nat} {Q : mm_O → mm_H → Prop} (C : mm_Ok Z qX10_isSign X) (hRm : mt_R X = mm_rm d mc ms) (hd : 1 ≤ d) (hn : n + 1 < 1000000) (hk : k + 1 ≤ mc) (hw : w + 6 ≤ ms) {v0 : Nat} {v1 : Int32} {c : mm_C} (hf : hO 0 ovI n (bX10_isSign_0 N  v0 v1 c) Q) : mG Z qX10_isSign X k w mc ms Q (0, [(0, .ref v0), (1, .int v1)], [], (n, c)) := by
  unfold bX10_isSign_0 at hf
  refine mg_aload_n C rfl rfl ?_
  refine mh_gI C rfl rfl rfl (by decide) hf (fun x1 hf => ?_)
  refine mg_iconst (v := 3) C rfl (by decide) ?_
  refine mh_icmp_ne C rfl hf (fun e_5 hf => ?_) (fun e_5 hf => ?_)
  · refine mg_iconst (v := 0) C rfl (by decide) ?_
    exact mh_zreturn C rfl (by omega) (by omega) rfl hf
  · refine mg_aload_n C rfl rfl ?_
    refine mh_gR C rfl rfl rfl (by decide) hf (fun x2 hf => ?_)
    refine mg_aload_n C rfl rfl ?_
    refine mh_gI C rfl rfl rfl (by decide) hf (fun x3 hf => ?_)
    refine mh_aB C rfl hf (fun x4 hf => ?_)
    refine mg_iload_n C rfl rfl ?_
    refine mh_icmp_ne C rfl hf (fun e_18 hf => ?_) (fun e_18 hf => ?_)
    · refine mg_iconst (v := 0) C rfl (by decide) ?_
      exact mh_zreturn C rfl (by omega) (by omega) rfl hf
    · refine mg_iconst (v := 1) C rfl (by decide) ?_
      refine mg_goto C rfl ?_
      exact mh_zreturn C rfl (by omega) (by omega) rfl hf
def fX10_isSign (N : Nat) (v0 : Nat) (v1 : Int32) (c : mm_C) : mR Int32 := bX10_isSign_0 N v0 v1 c
set_option maxRecDepth 100000 in
theorem wX10_isSign {Z : mm_Z} {d n N : Nat} (hd : 1 ≤ d) (hn : n + 1 < 1000000) {v0 : Nat} {v1 : Int32} {c : mm_C} (hs : (fX10_isSign N v0 v1 c).isSome = true) : mC Z qX10_isSign d 1 6 [.ref v0, .int v1] (n, c) (mP 0 ovI n (fX10_isSign N v0 v1 c)) := by
  refine mC_of gX10_isSign (by decide +kernel) (Nat.le_of_ble_eq_true rfl) fun X C hRm => ?_
  have hf := hO_mP 0 ovI n hs
  have hk : 0 + 1 ≤ 1 := Nat.le_of_ble_eq_true rfl
  have hw : 0 + 6 ≤ 6 := Nat.le_of_ble_eq_true rfl
  show mG _ _ _ _ _ _ _ _ (0, [(0, .ref v0), (1, .int v1)], [], (n, c))
  exact wX10_isSign_0 C hRm hd hn hk hw hf
def bX10_matches_20 (N : Nat)  (k20 : Nat → Nat → Int32 → Int32 → Int32 → mm_C → mR Int32) (v0 : Nat) (v1 : Nat) (v2 : Int32) (v3 : Int32) (v4 : Int32) (c : mm_C) : mR Int32 :=
  if v3 ≤ v4 then (rZ (1 : Int32) c) else (Option.bind (sCh v1 v4) fun x1 => Option.bind (gR c v0 10 2) fun x2 => Option.bind (gI c v0 10 1) fun x3 => Option.bind (aB c x2 ((x3 + v4) - v2)) fun x4 => if x1 = x4 then (k20 v0 v1 v2 v3 (v4 + 1) c) else (rZ (0 : Int32) c))
set_option maxRecDepth 100000 in
theorem wX10_matches_20 {Z : mm_Z} {X : mm_T} {k w mc ms d n N : Nat} {Q : mm_O → mm_H → Prop} (C : mm_Ok Z qX10_matches X) (hRm : mt_R X = mm_rm d mc ms) (hd : 5 ≤ d) (hn : n + 1 < 1000000) (hk : k + 1 ≤ mc) (hw : w + 6 ≤ ms) {k20 : Nat → Nat → Int32 → Int32 → Int32 → mm_C → mR Int32} (hk20 : ∀ (v0 : Nat) (v1 : Nat) (v2 : Int32) (v3 : Int32) (v4 : Int32) (c : mm_C), hO 0 ovI n (k20 v0 v1 v2 v3 v4 c) Q → mG Z qX10_matches X k w mc ms Q (20, [(0, .ref v0), (1, .ref v1), (2, .int v2), (3, .int v3), (4, .int v4)], [], (n, c))) {v0 : Nat} {v1 : Nat} {v2 : Int32} {v3 : Int32} {v4 : Int32} {c : mm_C} (hf : hO 0 ovI n (bX10_matches_20 N  k20 v0 v1 v2 v3 v4 c) Q) : mG Z qX10_matches X k w mc ms Q (20, [(0, .ref v0), (1, .ref v1), (2, .int v2), (3, .int v3), (4, .int v4)], [], (n, c)) := by
  unfold bX10_matches_20 at hf
  refine mg_iload C rfl rfl ?_
  refine mg_iload_n C rfl rfl ?_
  refine mh_icmp_ge C rfl hf (fun e_23 hf => ?_) (fun e_23 hf => ?_)
  · refine mg_iconst (v := 1) C rfl (by decide) ?_
    exact mh_zreturn C rfl (by omega) (by omega) rfl hf
  · refine mg_aload_n C rfl rfl ?_
    refine mg_iload C rfl rfl ?_
    refine mh_sCh C rfl rfl hRm (by omega) (Nat.le_of_ble_eq_true rfl) (by omega) (by omega) hf (fun x1 hf => ?_)
    refine mg_aload_n C rfl rfl ?_
    refine mh_gR C rfl rfl rfl (by decide) hf (fun x2 hf => ?_)
    refine mg_aload_n C rfl rfl ?_
    refine mh_gI C rfl rfl rfl (by decide) hf (fun x3 hf => ?_)
    refine mg_iload C rfl rfl ?_
    refine mg_iadd C rfl ?_
    refine mg_iload_n C rfl rfl ?_
    refine mg_isub C rfl ?_
    refine mh_aB C rfl hf (fun x4 hf => ?_)
    refine mh_icmp_eq C rfl hf (fun e_46 hf => ?_) (fun e_46 hf => ?_)
    · refine mg_iinc (lv' := [(0, .ref v0), (1, .ref v1), (2, .int v2), (3, .int v3), (4, .int (v4 + 1))]) C rfl (Nat.le_of_ble_eq_true rfl) rfl (show _ + Int32.ofInt 1 = _ + 1 by congr 1) rfl ?_
      refine mg_goto C rfl ?_
      exact hk20 _ _ _ _ _ _ hf
    · refine mg_iconst (v := 0) C rfl (by decide) ?_
      exact mh_zreturn C rfl (by omega) (by omega) rfl hf
def lX10_matches_20 (N : Nat)  : Nat → Nat → Nat → Int32 → Int32 → Int32 → mm_C → mR Int32
  | 0, _, _, _, _, _, _ => none
  | m + 1, v0, v1, v2, v3, v4, c => bX10_matches_20 N  (lX10_matches_20 N  m) v0 v1 v2 v3 v4 c
theorem WX10_matches_20 {Z : mm_Z} {X : mm_T} {k w mc ms d n N : Nat} {Q : mm_O → mm_H → Prop} (C : mm_Ok Z qX10_matches X) (hRm : mt_R X = mm_rm d mc ms) (hd : 5 ≤ d) (hn : n + 1 < 1000000) (hk : k + 1 ≤ mc) (hw : w + 6 ≤ ms) : ∀ (m : Nat) {v0 : Nat} {v1 : Nat} {v2 : Int32} {v3 : Int32} {v4 : Int32} {c : mm_C} (hf : hO 0 ovI n (lX10_matches_20 N  m v0 v1 v2 v3 v4 c) Q), mG Z qX10_matches X k w mc ms Q (20, [(0, .ref v0), (1, .ref v1), (2, .int v2), (3, .int v3), (4, .int v4)], [], (n, c)) := by
  intro m
  induction m with
  | zero => intro v0 v1 v2 v3 v4 c hf; exact absurd hf hO_none
  | succ m ih => intro v0 v1 v2 v3 v4 c hf; exact wX10_matches_20 C hRm hd hn hk hw (fun v0 v1 v2 v3 v4 c hf => ih hf) hf
def bX10_matches_0 (N : Nat)  (v0 : Nat) (v1 : Nat) (v2 : Int32) (v3 : Int32) (c : mm_C) : mR Int32 :=
  Option.bind (gI c v0 10 4) fun x1 => Option.bind (gI c v0 10 1) fun x2 => if (v3 - v2) = (x1 - x2) then (lX10_matches_20 N  N v0 v1 v2 v3 v2 c) else (rZ (0 : Int32) c)
set_option maxRecDepth 100000 in
theorem wX10_matches_0 {Z : mm_Z} {X : mm_T} {k w mc ms d n N : Nat} {Q : mm_O → mm_H → Prop} (C : mm_Ok Z qX10_matches X) (hRm : mt_R X = mm_rm d mc ms) (hd : 5 ≤ d) (hn : n + 1 < 1000000) (hk : k + 1 ≤ mc) (hw : w + 6 ≤ ms) {v0 : Nat} {v1 : Nat} {v2 : Int32} {v3 : Int32} {c : mm_C} (hf : hO 0 ovI n (bX10_matches_0 N  v0 v1 v2 v3 c) Q) : mG Z qX10_matches X k w mc ms Q (0, [(0, .ref v0), (1, .ref v1), (2, .int v2), (3, .int v3)], [], (n, c)) := by
  unfold bX10_matches_0 at hf
  refine mg_iload_n C rfl rfl ?_
  refine mg_iload_n C rfl rfl ?_
  refine mg_isub C rfl ?_
  refine mg_aload_n C rfl rfl ?_
  refine mh_gI C rfl rfl rfl (by decide) hf (fun x1 hf => ?_)
  refine mg_aload_n C rfl rfl ?_
  refine mh_gI C rfl rfl rfl (by decide) hf (fun x2 hf => ?_)
  refine mg_isub C rfl ?_
  refine mh_icmp_eq C rfl hf (fun e_12 hf => ?_) (fun e_12 hf => ?_)
  · refine mg_iload_n C rfl rfl ?_
    refine mg_istore (lv' := [(0, .ref v0), (1, .ref v1), (2, .int v2), (3, .int v3), (4, .int v2)]) C rfl (Nat.le_of_ble_eq_true rfl) rfl ?_
    exact WX10_matches_20 C hRm hd hn hk hw N hf
  · refine mg_iconst (v := 0) C rfl (by decide) ?_
    exact mh_zreturn C rfl (by omega) (by omega) rfl hf
def fX10_matches (N : Nat) (v0 : Nat) (v1 : Nat) (v2 : Int32) (v3 : Int32) (c : mm_C) : mR Int32 := bX10_matches_0 N v0 v1 v2 v3 c
set_option maxRecDepth 100000 in
theorem wX10_matches {Z : mm_Z} {d n N : Nat} (hd : 5 ≤ d) (hn : n + 1 < 1000000) {v0 : Nat} {v1 : Nat} {v2 : Int32} {v3 : Int32} {c : mm_C} (hs : (fX10_matches N v0 v1 v2 v3 c).isSome = true) : mC Z qX10_matches d 1 6 [.ref v0, .ref v1, .int v2, .int v3] (n, c) (mP 0 ovI n (fX10_matches N v0 v1 v2 v3 c)) := by
  refine mC_of gX10_matches (by decide +kernel) (Nat.le_of_ble_eq_true rfl) fun X C hRm => ?_
  have hf := hO_mP 0 ovI n hs
  have hk : 0 + 1 ≤ 1 := Nat.le_of_ble_eq_true rfl
  have hw : 0 + 6 ≤ 6 := Nat.le_of_ble_eq_true rfl
  show mG _ _ _ _ _ _ _ _ (0, [(0, .ref v0), (1, .ref v1), (2, .int v2), (3, .int v3)], [], (n, c))
  exact wX10_matches_0 C hRm hd hn hk hw hf
def bX10_isWord_0 (N : Nat)  (v0 : Nat) (v1 : Nat) (c : mm_C) : mR Int32 :=
  Option.bind (gI c v0 10 0) fun x1 => if ¬ x1 = (1 : Int32) then (rZ (0 : Int32) c) else (Option.bind (sLn v1) fun x2 => cV 10 v0 c (fX10_matches N v0 v1 (0 : Int32) x2 c) fun r3 c4 => if r3 = 0 then (rZ (0 : Int32) c4) else (rZ (1 : Int32) c4))
set_option maxRecDepth 100000 in
theorem wX10_isWord_0 {Z : mm_Z} {X : mm_T} {k w mc ms d n N : Nat} {Q : mm_O → mm_H → Prop} (C : mm_Ok Z qX10_isWord X) (hRm : mt_R X = mm_rm d mc ms) (hd : 6 ≤ d) (hn : n + 1 < 1000000) (hk : k + 1 ≤ mc) (hw : w + 6 ≤ ms) {v0 : Nat} {v1 : Nat} {c : mm_C} (hf : hO 0 ovI n (bX10_isWord_0 N  v0 v1 c) Q) : mG Z qX10_isWord X k w mc ms Q (0, [(0, .ref v0), (1, .ref v1)], [], (n, c)) := by
  unfold bX10_isWord_0 at hf
  refine mg_aload_n C rfl rfl ?_
  refine mh_gI C rfl rfl rfl (by decide) hf (fun x1 hf => ?_)
  refine mg_iconst (v := 1) C rfl (by decide) ?_
  refine mh_icmp_ne C rfl hf (fun e_5 hf => ?_) (fun e_5 hf => ?_)
  · refine mg_iconst (v := 0) C rfl (by decide) ?_
    exact mh_zreturn C rfl (by omega) (by omega) rfl hf
  · refine mg_aload_n C rfl rfl ?_
    refine mg_aload_n C rfl rfl ?_
    refine mg_iconst (v := 0) C rfl (by decide) ?_
    refine mg_aload_n C rfl rfl ?_
    refine mh_sLn C rfl rfl hRm (by omega) (Nat.le_of_ble_eq_true rfl) (by omega) (by omega) hf (fun x2 hf => ?_)
    refine mh_cVI (M' := qX10_matches) C rfl rfl aX10_matches iX10_matches sX10_matches hRm (by omega) (by decide) (by omega) (by omega) rfl rfl rfl (Nat.le_of_ble_eq_true rfl) rfl hf (fun hs => wX10_matches (by omega) (by omega) hs) (fun r3 c4 hf => ?_)
    refine mh_if_eq C rfl hf (fun e_18 hf => ?_) (fun e_18 hf => ?_)
    · refine mg_iconst (v := 0) C rfl (by decide) ?_
      exact mh_zreturn C rfl (by omega) (by omega) rfl hf
    · refine mg_iconst (v := 1) C rfl (by decide) ?_
      refine mg_goto C rfl ?_
      exact mh_zreturn C rfl (by omega) (by omega) rfl hf
def fX10_isWord (N : Nat) (v0 : Nat) (v1 : Nat) (c : mm_C) : mR Int32 := bX10_isWord_0 N v0 v1 c
set_option maxRecDepth 100000 in
theorem wX10_isWord {Z : mm_Z} {d n N : Nat} (hd : 6 ≤ d) (hn : n + 1 < 1000000) {v0 : Nat} {v1 : Nat} {c : mm_C} (hs : (fX10_isWord N v0 v1 c).isSome = true) : mC Z qX10_isWord d 1 6 [.ref v0, .ref v1] (n, c) (mP 0 ovI n (fX10_isWord N v0 v1 c)) := by
  refine mC_of gX10_isWord (by decide +kernel) (Nat.le_of_ble_eq_true rfl) fun X C hRm => ?_
  have hf := hO_mP 0 ovI n hs
  have hk : 0 + 1 ≤ 1 := Nat.le_of_ble_eq_true rfl
  have hw : 0 + 6 ≤ 6 := Nat.le_of_ble_eq_true rfl
  show mG _ _ _ _ _ _ _ _ (0, [(0, .ref v0), (1, .ref v1)], [], (n, c))
  exact wX10_isWord_0 C hRm hd hn hk hw hf
def bX10_indexIn_58 (N : Nat)  (k17 : Nat → Nat → Int32 → Int32 → Int32 → mm_C → mR Int32) (v0 : Nat) (v1 : Nat) (v2 : Int32) (v3 : Int32) (v4 : Int32) (c : mm_C) : mR Int32 :=
  k17 v0 v1 v2 v3 (v4 + 1) c
set_option maxRecDepth 100000 in
theorem wX10_indexIn_58 {Z : mm_Z} {X : mm_T} {k w mc ms d n N : Nat} {Q : mm_O → mm_H → Prop} (C : mm_Ok Z qX10_indexIn X) (hRm : mt_R X = mm_rm d mc ms) (hd : 6 ≤ d) (hn : n + 1 < 1000000) (hk : k + 1 ≤ mc) (hw : w + 6 ≤ ms) {k17 : Nat → Nat → Int32 → Int32 → Int32 → mm_C → mR Int32} (hk17 : ∀ (v0 : Nat) (v1 : Nat) (v2 : Int32) (v3 : Int32) (v4 : Int32) (c : mm_C), hO 0 ovI n (k17 v0 v1 v2 v3 v4 c) Q → mG Z qX10_indexIn X k w mc ms Q (17, [(0, .ref v0), (1, .ref v1), (2, .int v2), (3, .int v3), (4, .int v4)], [], (n, c))) {v0 : Nat} {v1 : Nat} {v2 : Int32} {v3 : Int32} {v4 : Int32} {c : mm_C} (hf : hO 0 ovI n (bX10_indexIn_58 N  k17 v0 v1 v2 v3 v4 c) Q) : mG Z qX10_indexIn X k w mc ms Q (58, [(0, .ref v0), (1, .ref v1), (2, .int v2), (3, .int v3), (4, .int v4)], [], (n, c)) := by
  unfold bX10_indexIn_58 at hf
  refine mg_iinc (lv' := [(0, .ref v0), (1, .ref v1), (2, .int v2), (3, .int v3), (4, .int (v4 + 1))]) C rfl (Nat.le_of_ble_eq_true rfl) rfl (show _ + Int32.ofInt 1 = _ + 1 by congr 1) rfl ?_
  refine mg_goto C rfl ?_
  exact hk17 _ _ _ _ _ _ hf
def bX10_indexIn_48 (N : Nat)  (v2 : Int32) (c : mm_C) : mR Int32 :=
  some (.inl v2, c)
set_option maxRecDepth 100000 in
theorem wX10_indexIn_48 {Z : mm_Z} {X : mm_T} {k w mc ms d n N : Nat} {Q : mm_O → mm_H → Prop} (C : mm_Ok Z qX10_indexIn X) (hRm : mt_R X = mm_rm d mc ms) (hd : 6 ≤ d) (hn : n + 1 < 1000000) (hk : k + 1 ≤ mc) (hw : w + 6 ≤ ms) {v2 : Int32} {c : mm_C} (hf : hO 0 ovI n (bX10_indexIn_48 N  v2 c) Q) : mG Z qX10_indexIn X k w mc ms Q (48, [(2, .int v2)], [], (n, c)) := by
  unfold bX10_indexIn_48 at hf
  refine mg_iload_n C rfl rfl ?_
  exact mh_ireturn C rfl (by omega) (by omega) rfl hf
def bX10_indexIn_17 (N : Nat)  (k17 : Nat → Nat → Int32 → Int32 → Int32 → mm_C → mR Int32) (v0 : Nat) (v1 : Nat) (v2 : Int32) (v3 : Int32) (v4 : Int32) (c : mm_C) : mR Int32 :=
  Option.bind (sLn v1) fun x1 => if x1 ≤ v4 then (some (.inl (-1 : Int32), c)) else (Option.bind (sCh v1 v4) fun x2 => if ¬ x2 = (32 : Int32) then (bX10_indexIn_58 N  k17 v0 v1 v2 v3 v4 c) else (cV 10 v0 c (fX10_matches N v0 v1 v3 v4 c) fun r3 c4 => if r3 = 0 then (bX10_indexIn_58 N  k17 v0 v1 (v2 + 1) (v4 + (1 : Int32)) v4 c4) else (bX10_indexIn_48 N  v2 c4)))
set_option maxRecDepth 100000 in
theorem wX10_indexIn_17 {Z : mm_Z} {X : mm_T} {k w mc ms d n N : Nat} {Q : mm_O → mm_H → Prop} (C : mm_Ok Z qX10_indexIn X) (hRm : mt_R X = mm_rm d mc ms) (hd : 6 ≤ d) (hn : n + 1 < 1000000) (hk : k + 1 ≤ mc) (hw : w + 6 ≤ ms) {k17 : Nat → Nat → Int32 → Int32 → Int32 → mm_C → mR Int32} (hk17 : ∀ (v0 : Nat) (v1 : Nat) (v2 : Int32) (v3 : Int32) (v4 : Int32) (c : mm_C), hO 0 ovI n (k17 v0 v1 v2 v3 v4 c) Q → mG Z qX10_indexIn X k w mc ms Q (17, [(0, .ref v0), (1, .ref v1), (2, .int v2), (3, .int v3), (4, .int v4)], [], (n, c))) {v0 : Nat} {v1 : Nat} {v2 : Int32} {v3 : Int32} {v4 : Int32} {c : mm_C} (hf : hO 0 ovI n (bX10_indexIn_17 N  k17 v0 v1 v2 v3 v4 c) Q) : mG Z qX10_indexIn X k w mc ms Q (17, [(0, .ref v0), (1, .ref v1), (2, .int v2), (3, .int v3), (4, .int v4)], [], (n, c)) := by
  unfold bX10_indexIn_17 at hf
  refine mg_iload C rfl rfl ?_
  refine mg_aload_n C rfl rfl ?_
  refine mh_sLn C rfl rfl hRm (by omega) (Nat.le_of_ble_eq_true rfl) (by omega) (by omega) hf (fun x1 hf => ?_)
  refine mh_icmp_ge C rfl hf (fun e_23 hf => ?_) (fun e_23 hf => ?_)
  · refine mg_iconst (v := (-1)) C rfl (by decide) ?_
    exact mh_ireturn C rfl (by omega) (by omega) rfl hf
  · refine mg_aload_n C rfl rfl ?_
    refine mg_iload C rfl rfl ?_
    refine mh_sCh C rfl rfl hRm (by omega) (Nat.le_of_ble_eq_true rfl) (by omega) (by omega) hf (fun x2 hf => ?_)
    refine mg_bipush (v := 32) C rfl (by decide) ?_
    refine mh_icmp_ne C rfl hf (fun e_34 hf => ?_) (fun e_34 hf => ?_)
    · exact wX10_indexIn_58 C hRm hd hn hk hw hk17 hf
    · refine mg_aload_n C rfl rfl ?_
      refine mg_aload_n C rfl rfl ?_
      refine mg_iload_n C rfl rfl ?_
      refine mg_iload C rfl rfl ?_
      refine mh_cVI (M' := qX10_matches) C rfl rfl aX10_matches iX10_matches sX10_matches hRm (by omega) (by decide) (by omega) (by omega) rfl rfl rfl (Nat.le_of_ble_eq_true rfl) rfl hf (fun hs => wX10_matches (by omega) (by omega) hs) (fun r3 c4 hf => ?_)
      refine mh_if_eq C rfl hf (fun e_45 hf => ?_) (fun e_45 hf => ?_)
      · refine mg_iinc (lv' := [(0, .ref v0), (1, .ref v1), (2, .int (v2 + 1)), (3, .int v3), (4, .int v4)]) C rfl (Nat.le_of_ble_eq_true rfl) rfl (show _ + Int32.ofInt 1 = _ + 1 by congr 1) rfl ?_
        refine mg_iload C rfl rfl ?_
        refine mg_iconst (v := 1) C rfl (by decide) ?_
        refine mg_iadd C rfl ?_
        refine mg_istore_n (lv' := [(0, .ref v0), (1, .ref v1), (2, .int (v2 + 1)), (3, .int (v4 + (1 : Int32))), (4, .int v4)]) C rfl (Nat.le_of_ble_eq_true rfl) rfl ?_
        exact wX10_indexIn_58 C hRm hd hn hk hw hk17 hf
      · refine mg_sub (lv' := [(2, .int v2)]) (by simp) ?_
        exact wX10_indexIn_48 C hRm hd hn hk hw hf
def lX10_indexIn_17 (N : Nat)  : Nat → Nat → Nat → Int32 → Int32 → Int32 → mm_C → mR Int32
  | 0, _, _, _, _, _, _ => none
  | m + 1, v0, v1, v2, v3, v4, c => bX10_indexIn_17 N  (lX10_indexIn_17 N  m) v0 v1 v2 v3 v4 c
theorem WX10_indexIn_17 {Z : mm_Z} {X : mm_T} {k w mc ms d n N : Nat} {Q : mm_O → mm_H → Prop} (C : mm_Ok Z qX10_indexIn X) (hRm : mt_R X = mm_rm d mc ms) (hd : 6 ≤ d) (hn : n + 1 < 1000000) (hk : k + 1 ≤ mc) (hw : w + 6 ≤ ms) : ∀ (m : Nat) {v0 : Nat} {v1 : Nat} {v2 : Int32} {v3 : Int32} {v4 : Int32} {c : mm_C} (hf : hO 0 ovI n (lX10_indexIn_17 N  m v0 v1 v2 v3 v4 c) Q), mG Z qX10_indexIn X k w mc ms Q (17, [(0, .ref v0), (1, .ref v1), (2, .int v2), (3, .int v3), (4, .int v4)], [], (n, c)) := by
  intro m
  induction m with
  | zero => intro v0 v1 v2 v3 v4 c hf; exact absurd hf hO_none
  | succ m ih => intro v0 v1 v2 v3 v4 c hf; exact wX10_indexIn_17 C hRm hd hn hk hw (fun v0 v1 v2 v3 v4 c hf => ih hf) hf
def bX10_indexIn_0 (N : Nat)  (v0 : Nat) (v1 : Nat) (c : mm_C) : mR Int32 :=
  Option.bind (gI c v0 10 0) fun x1 => if x1 = (1 : Int32) then (lX10_indexIn_17 N  N v0 v1 (0 : Int32) (0 : Int32) (0 : Int32) c) else (some (.inl (-1 : Int32), c))
set_option maxRecDepth 100000 in
theorem wX10_indexIn_0 {Z : mm_Z} {X : mm_T} {k w mc ms d n N : Nat} {Q : mm_O → mm_H → Prop} (C : mm_Ok Z qX10_indexIn X) (hRm : mt_R X = mm_rm d mc ms) (hd : 6 ≤ d) (hn : n + 1 < 1000000) (hk : k + 1 ≤ mc) (hw : w + 6 ≤ ms) {v0 : Nat} {v1 : Nat} {c : mm_C} (hf : hO 0 ovI n (bX10_indexIn_0 N  v0 v1 c) Q) : mG Z qX10_indexIn X k w mc ms Q (0, [(0, .ref v0), (1, .ref v1)], [], (n, c)) := by
  unfold bX10_indexIn_0 at hf
  refine mg_aload_n C rfl rfl ?_
  refine mh_gI C rfl rfl rfl (by decide) hf (fun x1 hf => ?_)
  refine mg_iconst (v := 1) C rfl (by decide) ?_
  refine mh_icmp_eq C rfl hf (fun e_5 hf => ?_) (fun e_5 hf => ?_)
  · refine mg_iconst (v := 0) C rfl (by decide) ?_
    refine mg_istore_n (lv' := [(0, .ref v0), (1, .ref v1), (2, .int (0 : Int32))]) C rfl (Nat.le_of_ble_eq_true rfl) rfl ?_
    refine mg_iconst (v := 0) C rfl (by decide) ?_
    refine mg_istore_n (lv' := [(0, .ref v0), (1, .ref v1), (2, .int (0 : Int32)), (3, .int (0 : Int32))]) C rfl (Nat.le_of_ble_eq_true rfl) rfl ?_
    refine mg_iconst (v := 0) C rfl (by decide) ?_
    refine mg_istore (lv' := [(0, .ref v0), (1, .ref v1), (2, .int (0 : Int32)), (3, .int (0 : Int32)), (4, .int (0 : Int32))]) C rfl (Nat.le_of_ble_eq_true rfl) rfl ?_
    exact WX10_indexIn_17 C hRm hd hn hk hw N hf
  · refine mg_iconst (v := (-1)) C rfl (by decide) ?_
    exact mh_ireturn C rfl (by omega) (by omega) rfl hf
def fX10_indexIn (N : Nat) (v0 : Nat) (v1 : Nat) (c : mm_C) : mR Int32 := bX10_indexIn_0 N v0 v1 c
set_option maxRecDepth 100000 in
theorem wX10_indexIn {Z : mm_Z} {d n N : Nat} (hd : 6 ≤ d) (hn : n + 1 < 1000000) {v0 : Nat} {v1 : Nat} {c : mm_C} (hs : (fX10_indexIn N v0 v1 c).isSome = true) : mC Z qX10_indexIn d 1 6 [.ref v0, .ref v1] (n, c) (mP 0 ovI n (fX10_indexIn N v0 v1 c)) := by
  refine mC_of gX10_indexIn (by decide +kernel) (Nat.le_of_ble_eq_true rfl) fun X C hRm => ?_
  have hf := hO_mP 0 ovI n hs
  have hk : 0 + 1 ≤ 1 := Nat.le_of_ble_eq_true rfl
  have hw : 0 + 6 ≤ 6 := Nat.le_of_ble_eq_true rfl
  show mG _ _ _ _ _ _ _ _ (0, [(0, .ref v0), (1, .ref v1)], [], (n, c))
  exact wX10_indexIn_0 C hRm hd hn hk hw hf
