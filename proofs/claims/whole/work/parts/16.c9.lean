/- needs: 15.acall 15.fun 16.b8 -/
def bX9_begins_56 (N : Nat)  (v0 : Nat) (v1 : Nat) (c : mm_C) : mR Unit :=
  Option.bind (gR c v0 9 8) fun x1 => cV 8 x1 c (fX8_copyFrom N x1 v1 c) fun (_ : Unit) c2 => some (.inl (), c2)
set_option maxRecDepth 100000 in
theorem wX9_begins_56 {Z : mm_Z} {X : mm_T} {k w mc ms d n N : Nat} {Q : mm_O → mm_H → Prop} (C : mm_Ok Z qX9_begins X) (hRm : mt_R X = mm_rm d mc ms) (hd : 2 ≤ d) (hn : n + 1 < 1000000) (hk : k + 1 ≤ mc) (hw : w + 6 ≤ ms) {v0 : Nat} {v1 : Nat} {c : mm_C} (hf : hO 0 ovU n (bX9_begins_56 N  v0 v1 c) Q) : mG Z qX9_begins X k w mc ms Q (56, [(0, .ref v0), (1, .ref v1)], [], (n, c)) := by
  unfold bX9_begins_56 at hf
  refine mg_aload_n C rfl rfl ?_
  refine mh_gR C rfl rfl rfl (by decide) hf (fun x1 hf => ?_)
  refine mg_aload_n C rfl rfl ?_
  refine mh_cVU (M' := qX8_copyFrom) C rfl rfl aX8_copyFrom iX8_copyFrom sX8_copyFrom hRm (by omega) (by decide) (by omega) (by omega) rfl rfl rfl (Nat.le_of_ble_eq_true rfl) rfl hf (fun hs => wX8_copyFrom (by omega) (by omega) hs) (fun c2 hf => ?_)
  exact mh_return C rfl (by omega) (by omega) rfl hf
def bX9_begins_37 (N : Nat)  (k37 : Nat → Nat → Int32 → mm_C → mR Unit) (v0 : Nat) (v1 : Nat) (v2 : Int32) (c : mm_C) : mR Unit :=
  if (8 : Int32) ≤ v2 then (bX9_begins_56 N  v0 v1 c) else (Option.bind (gR c v0 9 7) fun x1 => Option.bind (tI c x1 v2 (0 : Int32)) fun c2 => k37 v0 v1 (v2 + 1) c2)
set_option maxRecDepth 100000 in
theorem wX9_begins_37 {Z : mm_Z} {X : mm_T} {k w mc ms d n N : Nat} {Q : mm_O → mm_H → Prop} (C : mm_Ok Z qX9_begins X) (hRm : mt_R X = mm_rm d mc ms) (hd : 2 ≤ d) (hn : n + 1 < 1000000) (hk : k + 1 ≤ mc) (hw : w + 6 ≤ ms) {k37 : Nat → Nat → Int32 → mm_C → mR Unit} (hk37 : ∀ (v0 : Nat) (v1 : Nat) (v2 : Int32) (c : mm_C), hO 0 ovU n (k37 v0 v1 v2 c) Q → mG Z qX9_begins X k w mc ms Q (37, [(0, .ref v0), (1, .ref v1), (2, .int v2)], [], (n, c))) {v0 : Nat} {v1 : Nat} {v2 : Int32} {c : mm_C} (hf : hO 0 ovU n (bX9_begins_37 N  k37 v0 v1 v2 c) Q) : mG Z qX9_begins X k w mc ms Q (37, [(0, .ref v0), (1, .ref v1), (2, .int v2)], [], (n, c)) := by
  unfold bX9_begins_37 at hf
  refine mg_iload_n C rfl rfl ?_
  refine mg_bipush (v := 8) C rfl (by decide) ?_
  refine mh_icmp_ge C rfl hf (fun e_40 hf => ?_) (fun e_40 hf => ?_)
  · refine mg_sub (lv' := [(0, .ref v0), (1, .ref v1)]) (by simp) ?_
    exact wX9_begins_56 C hRm hd hn hk hw hf
  · refine mg_aload_n C rfl rfl ?_
    refine mh_gR C rfl rfl rfl (by decide) hf (fun x1 hf => ?_)
    refine mg_iload_n C rfl rfl ?_
    refine mg_iconst (v := 0) C rfl (by decide) ?_
    refine mh_tI C rfl hf (fun c2 hf => ?_)
    refine mg_iinc (lv' := [(0, .ref v0), (1, .ref v1), (2, .int (v2 + 1))]) C rfl (Nat.le_of_ble_eq_true rfl) rfl (show _ + Int32.ofInt 1 = _ + 1 by congr 1) rfl ?_
    refine mg_goto C rfl ?_
    exact hk37 _ _ _ _ hf
def lX9_begins_37 (N : Nat)  : Nat → Nat → Nat → Int32 → mm_C → mR Unit
  | 0, _, _, _, _ => none
  | m + 1, v0, v1, v2, c => bX9_begins_37 N  (lX9_begins_37 N  m) v0 v1 v2 c
theorem WX9_begins_37 {Z : mm_Z} {X : mm_T} {k w mc ms d n N : Nat} {Q : mm_O → mm_H → Prop} (C : mm_Ok Z qX9_begins X) (hRm : mt_R X = mm_rm d mc ms) (hd : 2 ≤ d) (hn : n + 1 < 1000000) (hk : k + 1 ≤ mc) (hw : w + 6 ≤ ms) : ∀ (m : Nat) {v0 : Nat} {v1 : Nat} {v2 : Int32} {c : mm_C} (hf : hO 0 ovU n (lX9_begins_37 N  m v0 v1 v2 c) Q), mG Z qX9_begins X k w mc ms Q (37, [(0, .ref v0), (1, .ref v1), (2, .int v2)], [], (n, c)) := by
  intro m
  induction m with
  | zero => intro v0 v1 v2 c hf; exact absurd hf hO_none
  | succ m ih => intro v0 v1 v2 c hf; exact wX9_begins_37 C hRm hd hn hk hw (fun v0 v1 v2 c hf => ih hf) hf
def bX9_begins_0 (N : Nat)  (v0 : Nat) (v1 : Nat) (c : mm_C) : mR Unit :=
  Option.bind (pI c v0 9 0 (0 : Int32)) fun c1 => Option.bind (pI c1 v0 9 1 (0 : Int32)) fun c2 => Option.bind (pI c2 v0 9 2 (0 : Int32)) fun c3 => Option.bind (pI c3 v0 9 3 (0 : Int32)) fun c4 => Option.bind (pI c4 v0 9 4 (0 : Int32)) fun c5 => Option.bind (pZ c5 v0 9 5 (0 : Int32)) fun c6 => Option.bind (pZ c6 v0 9 6 (0 : Int32)) fun c7 => lX9_begins_37 N  N v0 v1 (0 : Int32) c7
set_option maxRecDepth 100000 in
theorem wX9_begins_0 {Z : mm_Z} {X : mm_T} {k w mc ms d n N : Nat} {Q : mm_O → mm_H → Prop} (C : mm_Ok Z qX9_begins X) (hRm : mt_R X = mm_rm d mc ms) (hd : 2 ≤ d) (hn : n + 1 < 1000000) (hk : k + 1 ≤ mc) (hw : w + 6 ≤ ms) {v0 : Nat} {v1 : Nat} {c : mm_C} (hf : hO 0 ovU n (bX9_begins_0 N  v0 v1 c) Q) : mG Z qX9_begins X k w mc ms Q (0, [(0, .ref v0), (1, .ref v1)], [], (n, c)) := by
  unfold bX9_begins_0 at hf
  refine mg_aload_n C rfl rfl ?_
  refine mg_iconst (v := 0) C rfl (by decide) ?_
  refine mh_pI C rfl rfl rfl (by decide) rfl rfl rfl hf (fun c1 hf => ?_)
  refine mg_aload_n C rfl rfl ?_
  refine mg_iconst (v := 0) C rfl (by decide) ?_
  refine mh_pI C rfl rfl rfl (by decide) rfl rfl rfl hf (fun c2 hf => ?_)
  refine mg_aload_n C rfl rfl ?_
  refine mg_iconst (v := 0) C rfl (by decide) ?_
  refine mh_pI C rfl rfl rfl (by decide) rfl rfl rfl hf (fun c3 hf => ?_)
  refine mg_aload_n C rfl rfl ?_
  refine mg_iconst (v := 0) C rfl (by decide) ?_
  refine mh_pI C rfl rfl rfl (by decide) rfl rfl rfl hf (fun c4 hf => ?_)
  refine mg_aload_n C rfl rfl ?_
  refine mg_iconst (v := 0) C rfl (by decide) ?_
  refine mh_pI C rfl rfl rfl (by decide) rfl rfl rfl hf (fun c5 hf => ?_)
  refine mg_aload_n C rfl rfl ?_
  refine mg_iconst (v := 0) C rfl (by decide) ?_
  refine mh_pZ C rfl rfl rfl (by decide) rfl rfl hf (fun c6 hf => ?_)
  refine mg_aload_n C rfl rfl ?_
  refine mg_iconst (v := 0) C rfl (by decide) ?_
  refine mh_pZ C rfl rfl rfl (by decide) rfl rfl hf (fun c7 hf => ?_)
  refine mg_iconst (v := 0) C rfl (by decide) ?_
  refine mg_istore_n (lv' := [(0, .ref v0), (1, .ref v1), (2, .int (0 : Int32))]) C rfl (Nat.le_of_ble_eq_true rfl) rfl ?_
  exact WX9_begins_37 C hRm hd hn hk hw N hf
def fX9_begins (N : Nat) (v0 : Nat) (v1 : Nat) (c : mm_C) : mR Unit := bX9_begins_0 N v0 v1 c
set_option maxRecDepth 100000 in
theorem wX9_begins {Z : mm_Z} {d n N : Nat} (hd : 2 ≤ d) (hn : n + 1 < 1000000) {v0 : Nat} {v1 : Nat} {c : mm_C} (hs : (fX9_begins N v0 v1 c).isSome = true) : mC Z qX9_begins d 1 6 [.ref v0, .ref v1] (n, c) (mP 0 ovU n (fX9_begins N v0 v1 c)) := by
  refine mC_of gX9_begins (by decide +kernel) (Nat.le_of_ble_eq_true rfl) fun X C hRm => ?_
  have hf := hO_mP 0 ovU n hs
  have hk : 0 + 1 ≤ 1 := Nat.le_of_ble_eq_true rfl
  have hw : 0 + 6 ≤ 6 := Nat.le_of_ble_eq_true rfl
  show mG _ _ _ _ _ _ _ _ (0, [(0, .ref v0), (1, .ref v1)], [], (n, c))
  exact wX9_begins_0 C hRm hd hn hk hw hf
def bX9_copyFrom_0 (N : Nat)  (v0 : Nat) (v1 : Nat) (c : mm_C) : mR Unit :=
  Option.bind (gI c v1 9 0) fun x1 => Option.bind (pI c v0 9 0 x1) fun c2 => Option.bind (gI c2 v1 9 1) fun x3 => Option.bind (pI c2 v0 9 1 x3) fun c4 => Option.bind (gI c4 v1 9 2) fun x5 => Option.bind (pI c4 v0 9 2 x5) fun c6 => Option.bind (gI c6 v1 9 3) fun x7 => Option.bind (pI c6 v0 9 3 x7) fun c8 => Option.bind (gI c8 v1 9 4) fun x9 => Option.bind (pI c8 v0 9 4 x9) fun c10 => Option.bind (gI c10 v1 9 5) fun x11 => Option.bind (pZ c10 v0 9 5 x11) fun c12 => Option.bind (gI c12 v1 9 6) fun x13 => Option.bind (pZ c12 v0 9 6 x13) fun c14 => Option.bind (gR c14 v1 9 7) fun x15 => Option.bind (gR c14 v0 9 7) fun x16 => Option.bind (cpA .int c14 x15 (0 : Int32) x16 (0 : Int32) (8 : Int32)) fun c17 => Option.bind (gR c17 v0 9 8) fun x18 => Option.bind (gR c17 v1 9 8) fun x19 => cV 8 x18 c17 (fX8_copyFrom N x18 x19 c17) fun (_ : Unit) c20 => some (.inl (), c20)
set_option maxRecDepth 100000 in
theorem wX9_copyFrom_0 {Z : mm_Z} {X : mm_T} {k w mc ms d n N : Nat} {Q : mm_O → mm_H → Prop} (C : mm_Ok Z qX9_copyFrom X) (hRm : mt_R X = mm_rm d mc ms) (hd : 2 ≤ d) (hn : n + 1 < 1000000) (hk : k + 1 ≤ mc) (hw : w + 6 ≤ ms) {v0 : Nat} {v1 : Nat} {c : mm_C} (hf : hO 0 ovU n (bX9_copyFrom_0 N  v0 v1 c) Q) : mG Z qX9_copyFrom X k w mc ms Q (0, [(0, .ref v0), (1, .ref v1)], [], (n, c)) := by
  unfold bX9_copyFrom_0 at hf
  refine mg_aload_n C rfl rfl ?_
  refine mg_aload_n C rfl rfl ?_
  refine mh_gI C rfl rfl rfl (by decide) hf (fun x1 hf => ?_)
  refine mh_pI C rfl rfl rfl (by decide) rfl rfl rfl hf (fun c2 hf => ?_)
  refine mg_aload_n C rfl rfl ?_
  refine mg_aload_n C rfl rfl ?_
  refine mh_gI C rfl rfl rfl (by decide) hf (fun x3 hf => ?_)
  refine mh_pI C rfl rfl rfl (by decide) rfl rfl rfl hf (fun c4 hf => ?_)
  refine mg_aload_n C rfl rfl ?_
  refine mg_aload_n C rfl rfl ?_
  refine mh_gI C rfl rfl rfl (by decide) hf (fun x5 hf => ?_)
  refine mh_pI C rfl rfl rfl (by decide) rfl rfl rfl hf (fun c6 hf => ?_)
  refine mg_aload_n C rfl rfl ?_
  refine mg_aload_n C rfl rfl ?_
  refine mh_gI C rfl rfl rfl (by decide) hf (fun x7 hf => ?_)
  refine mh_pI C rfl rfl rfl (by decide) rfl rfl rfl hf (fun c8 hf => ?_)
  refine mg_aload_n C rfl rfl ?_
  refine mg_aload_n C rfl rfl ?_
  refine mh_gI C rfl rfl rfl (by decide) hf (fun x9 hf => ?_)
  refine mh_pI C rfl rfl rfl (by decide) rfl rfl rfl hf (fun c10 hf => ?_)
  refine mg_aload_n C rfl rfl ?_
  refine mg_aload_n C rfl rfl ?_
  refine mh_gI C rfl rfl rfl (by decide) hf (fun x11 hf => ?_)
  refine mh_pZ C rfl rfl rfl (by decide) rfl rfl hf (fun c12 hf => ?_)
  refine mg_aload_n C rfl rfl ?_
  refine mg_aload_n C rfl rfl ?_
  refine mh_gI C rfl rfl rfl (by decide) hf (fun x13 hf => ?_)
  refine mh_pZ C rfl rfl rfl (by decide) rfl rfl hf (fun c14 hf => ?_)
  refine mg_aload_n C rfl rfl ?_
  refine mh_gR C rfl rfl rfl (by decide) hf (fun x15 hf => ?_)
  refine mg_iconst (v := 0) C rfl (by decide) ?_
  refine mg_aload_n C rfl rfl ?_
  refine mh_gR C rfl rfl rfl (by decide) hf (fun x16 hf => ?_)
  refine mg_iconst (v := 0) C rfl (by decide) ?_
  refine mg_bipush (v := 8) C rfl (by decide) ?_
  refine mh_cpA (ti := 0) C rfl rfl rfl rfl hRm (by omega) (Nat.le_of_ble_eq_true rfl) hf (fun c17 hf => ?_)
  refine mg_aload_n C rfl rfl ?_
  refine mh_gR C rfl rfl rfl (by decide) hf (fun x18 hf => ?_)
  refine mg_aload_n C rfl rfl ?_
  refine mh_gR C rfl rfl rfl (by decide) hf (fun x19 hf => ?_)
  refine mh_cVU (M' := qX8_copyFrom) C rfl rfl aX8_copyFrom iX8_copyFrom sX8_copyFrom hRm (by omega) (by decide) (by omega) (by omega) rfl rfl rfl (Nat.le_of_ble_eq_true rfl) rfl hf (fun hs => wX8_copyFrom (by omega) (by omega) hs) (fun c20 hf => ?_)
  exact mh_return C rfl (by omega) (by omega) rfl hf
def fX9_copyFrom (N : Nat) (v0 : Nat) (v1 : Nat) (c : mm_C) : mR Unit := bX9_copyFrom_0 N v0 v1 c
set_option maxRecDepth 100000 in
theorem wX9_copyFrom {Z : mm_Z} {d n N : Nat} (hd : 2 ≤ d) (hn : n + 1 < 1000000) {v0 : Nat} {v1 : Nat} {c : mm_C} (hs : (fX9_copyFrom N v0 v1 c).isSome = true) : mC Z qX9_copyFrom d 1 6 [.ref v0, .ref v1] (n, c) (mP 0 ovU n (fX9_copyFrom N v0 v1 c)) := by
  refine mC_of gX9_copyFrom (by decide +kernel) (Nat.le_of_ble_eq_true rfl) fun X C hRm => ?_
  have hf := hO_mP 0 ovU n hs
  have hk : 0 + 1 ≤ 1 := Nat.le_of_ble_eq_true rfl
  have hw : 0 + 6 ≤ 6 := Nat.le_of_ble_eq_true rfl
  show mG _ _ _ _ _ _ _ _ (0, [(0, .ref v0), (1, .ref v1)], [], (n, c))
  exact wX9_copyFrom_0 C hRm hd hn hk hw hf
def bX9_isHad_0 (N : Nat)  (v0 : Nat) (v1 : Int32) (c : mm_C) : mR Int32 :=
  Option.bind (gI c v0 9 2) fun x1 => if ¬ ((x1 >>> (v1 &&& 31)) &&& (1 : Int32)) = (1 : Int32) then (rZ (0 : Int32) c) else (rZ (1 : Int32) c)
set_option maxRecDepth 100000 in
theorem wX9_isHad_0 {Z : mm_Z} {X : mm_T} {k w mc ms d n N : Nat} {Q : mm_O → mm_H → Prop} (C : mm_Ok Z qX9_isHad X) (hRm : mt_R X = mm_rm d mc ms) (hd : 1 ≤ d) (hn : n + 1 < 1000000) (hk : k + 1 ≤ mc) (hw : w + 6 ≤ ms) {v0 : Nat} {v1 : Int32} {c : mm_C} (hf : hO 0 ovI n (bX9_isHad_0 N  v0 v1 c) Q) : mG Z qX9_isHad X k w mc ms Q (0, [(0, .ref v0), (1, .int v1)], [], (n, c)) := by
  unfold bX9_isHad_0 at hf
  refine mg_aload_n C rfl rfl ?_
  refine mh_gI C rfl rfl rfl (by decide) hf (fun x1 hf => ?_)
  refine mg_iload_n C rfl rfl ?_
  refine mg_ishr C rfl ?_
  refine mg_iconst (v := 1) C rfl (by decide) ?_
  refine mg_iand C rfl ?_
  refine mg_iconst (v := 1) C rfl (by decide) ?_
  refine mh_icmp_ne C rfl hf (fun e_9 hf => ?_) (fun e_9 hf => ?_)
  · refine mg_iconst (v := 0) C rfl (by decide) ?_
    exact mh_zreturn C rfl (by omega) (by omega) rfl hf
  · refine mg_iconst (v := 1) C rfl (by decide) ?_
    refine mg_goto C rfl ?_
    exact mh_zreturn C rfl (by omega) (by omega) rfl hf
def fX9_isHad (N : Nat) (v0 : Nat) (v1 : Int32) (c : mm_C) : mR Int32 := bX9_isHad_0 N v0 v1 c
set_option maxRecDepth 100000 in
theorem wX9_isHad {Z : mm_Z} {d n N : Nat} (hd : 1 ≤ d) (hn : n + 1 < 1000000) {v0 : Nat} {v1 : Int32} {c : mm_C} (hs : (fX9_isHad N v0 v1 c).isSome = true) : mC Z qX9_isHad d 1 6 [.ref v0, .int v1] (n, c) (mP 0 ovI n (fX9_isHad N v0 v1 c)) := by
  refine mC_of gX9_isHad (by decide +kernel) (Nat.le_of_ble_eq_true rfl) fun X C hRm => ?_
  have hf := hO_mP 0 ovI n hs
  have hk : 0 + 1 ≤ 1 := Nat.le_of_ble_eq_true rfl
  have hw : 0 + 6 ≤ 6 := Nat.le_of_ble_eq_true rfl
  show mG _ _ _ _ _ _ _ _ (0, [(0, .ref v0), (1, .int v1)], [], (n, c))
  exact wX9_isHad_0 C hRm hd hn hk hw hf
def bX9_waits_0 (N : Nat)  (v0 : Nat) (v1 : Int32) (c : mm_C) : mR Unit :=
  Option.bind (gI c v0 9 0) fun x1 => Option.bind (pI c v0 9 0 (x1 + v1)) fun c2 => Option.bind (gI c2 v0 9 4) fun x3 => Option.bind (pI c2 v0 9 4 (x3 + v1)) fun c4 => some (.inl (), c4)
set_option maxRecDepth 100000 in
theorem wX9_waits_0 {Z : mm_Z} {X : mm_T} {k w mc ms d n N : Nat} {Q : mm_O → mm_H → Prop} (C : mm_Ok Z qX9_waits X) (hRm : mt_R X = mm_rm d mc ms) (hd : 1 ≤ d) (hn : n + 1 < 1000000) (hk : k + 1 ≤ mc) (hw : w + 6 ≤ ms) {v0 : Nat} {v1 : Int32} {c : mm_C} (hf : hO 0 ovU n (bX9_waits_0 N  v0 v1 c) Q) : mG Z qX9_waits X k w mc ms Q (0, [(0, .ref v0), (1, .int v1)], [], (n, c)) := by
  unfold bX9_waits_0 at hf
  refine mg_aload_n C rfl rfl ?_
  refine mg_dup C rfl rfl ?_
  refine mh_gI C rfl rfl rfl (by decide) hf (fun x1 hf => ?_)
  refine mg_iload_n C rfl rfl ?_
  refine mg_iadd C rfl ?_
  refine mh_pI C rfl rfl rfl (by decide) rfl rfl rfl hf (fun c2 hf => ?_)
  refine mg_aload_n C rfl rfl ?_
  refine mg_dup C rfl rfl ?_
  refine mh_gI C rfl rfl rfl (by decide) hf (fun x3 hf => ?_)
  refine mg_iload_n C rfl rfl ?_
  refine mg_iadd C rfl ?_
  refine mh_pI C rfl rfl rfl (by decide) rfl rfl rfl hf (fun c4 hf => ?_)
  exact mh_return C rfl (by omega) (by omega) rfl hf
def fX9_waits (N : Nat) (v0 : Nat) (v1 : Int32) (c : mm_C) : mR Unit := bX9_waits_0 N v0 v1 c
set_option maxRecDepth 100000 in
theorem wX9_waits {Z : mm_Z} {d n N : Nat} (hd : 1 ≤ d) (hn : n + 1 < 1000000) {v0 : Nat} {v1 : Int32} {c : mm_C} (hs : (fX9_waits N v0 v1 c).isSome = true) : mC Z qX9_waits d 1 6 [.ref v0, .int v1] (n, c) (mP 0 ovU n (fX9_waits N v0 v1 c)) := by
  refine mC_of gX9_waits (by decide +kernel) (Nat.le_of_ble_eq_true rfl) fun X C hRm => ?_
  have hf := hO_mP 0 ovU n hs
  have hk : 0 + 1 ≤ 1 := Nat.le_of_ble_eq_true rfl
  have hw : 0 + 6 ≤ 6 := Nat.le_of_ble_eq_true rfl
  show mG _ _ _ _ _ _ _ _ (0, [(0, .ref v0), (1, .int v1)], [], (n, c))
  exact wX9_waits_0 C hRm hd hn hk hw hf
def bX9_goesOver_13 (N : Nat)  (v0 : Nat) (v1 : Int32) (s0 : Nat) (s1 : Int32) (c : mm_C) : mR Unit :=
  Option.bind (pI c s0 9 1 s1) fun c1 => Option.bind (gI c1 v0 9 0) fun x2 => Option.bind (pI c1 v0 9 0 (x2 + v1)) fun c3 => Option.bind (pI c3 v0 9 4 (0 : Int32)) fun c4 => some (.inl (), c4)
set_option maxRecDepth 100000 in
theorem wX9_goesOver_13 {Z : mm_Z} {X : mm_T} {k w mc ms d n N : Nat} {Q : mm_O → mm_H → Prop} (C : mm_Ok Z qX9_goesOver X) (hRm : mt_R X = mm_rm d mc ms) (hd : 1 ≤ d) (hn : n + 1 < 1000000) (hk : k + 1 ≤ mc) (hw : w + 6 ≤ ms) {v0 : Nat} {v1 : Int32} {s0 : Nat} {s1 : Int32} {c : mm_C} (hf : hO 0 ovU n (bX9_goesOver_13 N  v0 v1 s0 s1 c) Q) : mG Z qX9_goesOver X k w mc ms Q (13, [(0, .ref v0), (1, .int v1)], [.int s1, .ref s0], (n, c)) := by
  unfold bX9_goesOver_13 at hf
  refine mh_pI C rfl rfl rfl (by decide) rfl rfl rfl hf (fun c1 hf => ?_)
  refine mg_aload_n C rfl rfl ?_
  refine mg_dup C rfl rfl ?_
  refine mh_gI C rfl rfl rfl (by decide) hf (fun x2 hf => ?_)
  refine mg_iload_n C rfl rfl ?_
  refine mg_iadd C rfl ?_
  refine mh_pI C rfl rfl rfl (by decide) rfl rfl rfl hf (fun c3 hf => ?_)
  refine mg_aload_n C rfl rfl ?_
  refine mg_iconst (v := 0) C rfl (by decide) ?_
  refine mh_pI C rfl rfl rfl (by decide) rfl rfl rfl hf (fun c4 hf => ?_)
  exact mh_return C rfl (by omega) (by omega) rfl hf
def bX9_goesOver_0 (N : Nat)  (v0 : Nat) (v1 : Int32) (c : mm_C) : mR Unit :=
  Option.bind (gI c v0 9 1) fun x1 => if ¬ x1 = 0 then (bX9_goesOver_13 N  v0 v1 v0 (0 : Int32) c) else (bX9_goesOver_13 N  v0 v1 v0 (1 : Int32) c)
set_option maxRecDepth 100000 in
theorem wX9_goesOver_0 {Z : mm_Z} {X : mm_T} {k w mc ms d n N : Nat} {Q : mm_O → mm_H → Prop} (C : mm_Ok Z qX9_goesOver X) (hRm : mt_R X = mm_rm d mc ms) (hd : 1 ≤ d) (hn : n + 1 < 1000000) (hk : k + 1 ≤ mc) (hw : w + 6 ≤ ms) {v0 : Nat} {v1 : Int32} {c : mm_C} (hf : hO 0 ovU n (bX9_goesOver_0 N  v0 v1 c) Q) : mG Z qX9_goesOver X k w mc ms Q (0, [(0, .ref v0), (1, .int v1)], [], (n, c)) := by
  unfold bX9_goesOver_0 at hf
  refine mg_aload_n C rfl rfl ?_
  refine mg_aload_n C rfl rfl ?_
  refine mh_gI C rfl rfl rfl (by decide) hf (fun x1 hf => ?_)
  refine mh_if_ne C rfl hf (fun e_5 hf => ?_) (fun e_5 hf => ?_)
  · refine mg_iconst (v := 0) C rfl (by decide) ?_
    exact wX9_goesOver_13 C hRm hd hn hk hw hf
  · refine mg_iconst (v := 1) C rfl (by decide) ?_
    refine mg_goto C rfl ?_
    exact wX9_goesOver_13 C hRm hd hn hk hw hf
def fX9_goesOver (N : Nat) (v0 : Nat) (v1 : Int32) (c : mm_C) : mR Unit := bX9_goesOver_0 N v0 v1 c
set_option maxRecDepth 100000 in
theorem wX9_goesOver {Z : mm_Z} {d n N : Nat} (hd : 1 ≤ d) (hn : n + 1 < 1000000) {v0 : Nat} {v1 : Int32} {c : mm_C} (hs : (fX9_goesOver N v0 v1 c).isSome = true) : mC Z qX9_goesOver d 1 6 [.ref v0, .int v1] (n, c) (mP 0 ovU n (fX9_goesOver N v0 v1 c)) := by
  refine mC_of gX9_goesOver (by decide +kernel) (Nat.le_of_ble_eq_true rfl) fun X C hRm => ?_
  have hf := hO_mP 0 ovU n hs
  have hk : 0 + 1 ≤ 1 := Nat.le_of_ble_eq_true rfl
  have hw : 0 + 6 ≤ 6 := Nat.le_of_ble_eq_true rfl
  show mG _ _ _ _ _ _ _ _ (0, [(0, .ref v0), (1, .int v1)], [], (n, c))
  exact wX9_goesOver_0 C hRm hd hn hk hw hf
def bX9_putOn_0 (N : Nat)  (v0 : Nat) (v1 : Int32) (v2 : Int32) (c : mm_C) : mR Unit :=
  if ¬ v1 = 0 then (Option.bind (pZ c v0 9 6 v2) fun c1 => some (.inl (), c1)) else (Option.bind (pZ c v0 9 5 v2) fun c2 => some (.inl (), c2))
set_option maxRecDepth 100000 in
theorem wX9_putOn_0 {Z : mm_Z} {X : mm_T} {k w mc ms d n N : Nat} {Q : mm_O → mm_H → Prop} (C : mm_Ok Z qX9_putOn X) (hRm : mt_R X = mm_rm d mc ms) (hd : 1 ≤ d) (hn : n + 1 < 1000000) (hk : k + 1 ≤ mc) (hw : w + 6 ≤ ms) {v0 : Nat} {v1 : Int32} {v2 : Int32} {c : mm_C} (hf : hO 0 ovU n (bX9_putOn_0 N  v0 v1 v2 c) Q) : mG Z qX9_putOn X k w mc ms Q (0, [(0, .ref v0), (1, .int v1), (2, .int v2)], [], (n, c)) := by
  unfold bX9_putOn_0 at hf
  refine mg_iload_n C rfl rfl ?_
  refine mh_if_ne C rfl hf (fun e_1 hf => ?_) (fun e_1 hf => ?_)
  · refine mg_aload_n C rfl rfl ?_
    refine mg_iload_n C rfl rfl ?_
    refine mh_pZ C rfl rfl rfl (by decide) rfl rfl hf (fun c1 hf => ?_)
    exact mh_return C rfl (by omega) (by omega) rfl hf
  · refine mg_aload_n C rfl rfl ?_
    refine mg_iload_n C rfl rfl ?_
    refine mh_pZ C rfl rfl rfl (by decide) rfl rfl hf (fun c2 hf => ?_)
    refine mg_goto C rfl ?_
    exact mh_return C rfl (by omega) (by omega) rfl hf
def fX9_putOn (N : Nat) (v0 : Nat) (v1 : Int32) (v2 : Int32) (c : mm_C) : mR Unit := bX9_putOn_0 N v0 v1 v2 c
set_option maxRecDepth 100000 in
theorem wX9_putOn {Z : mm_Z} {d n N : Nat} (hd : 1 ≤ d) (hn : n + 1 < 1000000) {v0 : Nat} {v1 : Int32} {v2 : Int32} {c : mm_C} (hs : (fX9_putOn N v0 v1 v2 c).isSome = true) : mC Z qX9_putOn d 1 6 [.ref v0, .int v1, .int v2] (n, c) (mP 0 ovU n (fX9_putOn N v0 v1 v2 c)) := by
  refine mC_of gX9_putOn (by decide +kernel) (Nat.le_of_ble_eq_true rfl) fun X C hRm => ?_
  have hf := hO_mP 0 ovU n hs
  have hk : 0 + 1 ≤ 1 := Nat.le_of_ble_eq_true rfl
  have hw : 0 + 6 ≤ 6 := Nat.le_of_ble_eq_true rfl
  show mG _ _ _ _ _ _ _ _ (0, [(0, .ref v0), (1, .int v1), (2, .int v2)], [], (n, c))
  exact wX9_putOn_0 C hRm hd hn hk hw hf
