/- needs: 15.acall 15.fun 15.gcatch 16.h2 16.d5 16.f0 16.f6 16.aJ -/
def bX11_putBytes_3 (N : Nat)  (k3 : Nat → Int32 → Int32 → mm_C → mR Unit) (v0 : Nat) (v1 : Int32) (v2 : Int32) (c : mm_C) : mR Unit :=
  if v2 < 0 then (some (.inl (), c)) else (Option.bind (gI c v0 11 1) fun x1 => if (700 : Int32) ≤ x1 then (some (.inl (), c)) else (Option.bind (gR c v0 11 0) fun x2 => Option.bind (gI c v0 11 1) fun x3 => Option.bind (tB c x2 x3 (((v1.toUInt32 >>> (v2.toUInt32 &&& Int32.toUInt32 31)).toInt32).toInt8.toInt32)) fun c4 => Option.bind (gI c4 v0 11 1) fun x5 => Option.bind (pI c4 v0 11 1 (x5 + (1 : Int32))) fun c6 => k3 v0 v1 (v2 + (-8)) c6))
set_option maxRecDepth 100000 in
theorem wX11_putBytes_3 {Z : mm_Z} {X : mm_T} {k w mc ms d n N : Nat} {Q : mm_O → mm_H → Prop} (C : mm_Ok Z qX11_putBytes X) (hRm : mt_R X = mm_rm d mc ms) (hd : 1 ≤ d) (hn : n + 1 < 1000000) (hk : k + 1 ≤ mc) (hw : w + 6 ≤ ms) {k3 : Nat → Int32 → Int32 → mm_C → mR Unit} (hk3 : ∀ (v0 : Nat) (v1 : Int32) (v2 : Int32) (c : mm_C), hO 0 ovU n (k3 v0 v1 v2 c) Q → mG Z qX11_putBytes X k w mc ms Q (3, [(0, .ref v0), (1, .int v1), (2, .int v2)], [], (n, c))) {v0 : Nat} {v1 : Int32} {v2 : Int32} {c : mm_C} (hf : hO 0 ovU n (bX11_putBytes_3 N  k3 v0 v1 v2 c) Q) : mG Z qX11_putBytes X k w mc ms Q (3, [(0, .ref v0), (1, .int v1), (2, .int v2)], [], (n, c)) := by
  unfold bX11_putBytes_3 at hf
  refine mg_iload_n C rfl rfl ?_
  refine mh_if_lt C rfl hf (fun e_4 hf => ?_) (fun e_4 hf => ?_)
  · exact mh_return C rfl (by omega) (by omega) rfl hf
  · refine mg_aload_n C rfl rfl ?_
    refine mh_gI C rfl rfl rfl (by decide) hf (fun x1 hf => ?_)
    refine mg_sipush (v := 700) C rfl (by decide) ?_
    refine mh_icmp_ge C rfl hf (fun e_14 hf => ?_) (fun e_14 hf => ?_)
    · exact mh_return C rfl (by omega) (by omega) rfl hf
    · refine mg_aload_n C rfl rfl ?_
      refine mh_gR C rfl rfl rfl (by decide) hf (fun x2 hf => ?_)
      refine mg_aload_n C rfl rfl ?_
      refine mh_gI C rfl rfl rfl (by decide) hf (fun x3 hf => ?_)
      refine mg_iload_n C rfl rfl ?_
      refine mg_iload_n C rfl rfl ?_
      refine mg_iushr C rfl ?_
      refine mg_i2b C rfl ?_
      refine mh_tB C rfl hf (fun c4 hf => ?_)
      refine mg_aload_n C rfl rfl ?_
      refine mg_dup C rfl rfl ?_
      refine mh_gI C rfl rfl rfl (by decide) hf (fun x5 hf => ?_)
      refine mg_iconst (v := 1) C rfl (by decide) ?_
      refine mg_iadd C rfl ?_
      refine mh_pI C rfl rfl rfl (by decide) rfl rfl rfl hf (fun c6 hf => ?_)
      refine mg_iinc (lv' := [(0, .ref v0), (1, .int v1), (2, .int (v2 + (-8)))]) C rfl (Nat.le_of_ble_eq_true rfl) rfl (show _ + Int32.ofInt (-8) = _ + (-8) by congr 1) rfl ?_
      refine mg_goto C rfl ?_
      exact hk3 _ _ _ _ hf
def lX11_putBytes_3 (N : Nat)  : Nat → Nat → Int32 → Int32 → mm_C → mR Unit
  | 0, _, _, _, _ => none
  | m + 1, v0, v1, v2, c => bX11_putBytes_3 N  (lX11_putBytes_3 N  m) v0 v1 v2 c
theorem WX11_putBytes_3 {Z : mm_Z} {X : mm_T} {k w mc ms d n N : Nat} {Q : mm_O → mm_H → Prop} (C : mm_Ok Z qX11_putBytes X) (hRm : mt_R X = mm_rm d mc ms) (hd : 1 ≤ d) (hn : n + 1 < 1000000) (hk : k + 1 ≤ mc) (hw : w + 6 ≤ ms) : ∀ (m : Nat) {v0 : Nat} {v1 : Int32} {v2 : Int32} {c : mm_C} (hf : hO 0 ovU n (lX11_putBytes_3 N  m v0 v1 v2 c) Q), mG Z qX11_putBytes X k w mc ms Q (3, [(0, .ref v0), (1, .int v1), (2, .int v2)], [], (n, c)) := by
  intro m
  induction m with
  | zero => intro v0 v1 v2 c hf; exact absurd hf hO_none
  | succ m ih => intro v0 v1 v2 c hf; exact wX11_putBytes_3 C hRm hd hn hk hw (fun v0 v1 v2 c hf => ih hf) hf
def bX11_putBytes_0 (N : Nat)  (v0 : Nat) (v1 : Int32) (c : mm_C) : mR Unit :=
  lX11_putBytes_3 N  N v0 v1 (24 : Int32) c
set_option maxRecDepth 100000 in
theorem wX11_putBytes_0 {Z : mm_Z} {X : mm_T} {k w mc ms d n N : Nat} {Q : mm_O → mm_H → Prop} (C : mm_Ok Z qX11_putBytes X) (hRm : mt_R X = mm_rm d mc ms) (hd : 1 ≤ d) (hn : n + 1 < 1000000) (hk : k + 1 ≤ mc) (hw : w + 6 ≤ ms) {v0 : Nat} {v1 : Int32} {c : mm_C} (hf : hO 0 ovU n (bX11_putBytes_0 N  v0 v1 c) Q) : mG Z qX11_putBytes X k w mc ms Q (0, [(0, .ref v0), (1, .int v1)], [], (n, c)) := by
  unfold bX11_putBytes_0 at hf
  refine mg_bipush (v := 24) C rfl (by decide) ?_
  refine mg_istore_n (lv' := [(0, .ref v0), (1, .int v1), (2, .int (24 : Int32))]) C rfl (Nat.le_of_ble_eq_true rfl) rfl ?_
  exact WX11_putBytes_3 C hRm hd hn hk hw N hf
def fX11_putBytes (N : Nat) (v0 : Nat) (v1 : Int32) (c : mm_C) : mR Unit := bX11_putBytes_0 N v0 v1 c
set_option maxRecDepth 100000 in
theorem wX11_putBytes {Z : mm_Z} {d n N : Nat} (hd : 1 ≤ d) (hn : n + 1 < 1000000) {v0 : Nat} {v1 : Int32} {c : mm_C} (hs : (fX11_putBytes N v0 v1 c).isSome = true) : mC Z qX11_putBytes d 1 6 [.ref v0, .int v1] (n, c) (mP 0 ovU n (fX11_putBytes N v0 v1 c)) := by
  refine mC_of gX11_putBytes (by decide +kernel) (Nat.le_of_ble_eq_true rfl) fun X C hRm => ?_
  have hf := hO_mP 0 ovU n hs
  have hk : 0 + 1 ≤ 1 := Nat.le_of_ble_eq_true rfl
  have hw : 0 + 6 ≤ 6 := Nat.le_of_ble_eq_true rfl
  show mG _ _ _ _ _ _ _ _ (0, [(0, .ref v0), (1, .int v1)], [], (n, c))
  exact wX11_putBytes_0 C hRm hd hn hk hw hf
def bX11_feed_0 (N : Nat)  (v0 : Nat) (v1 : Int32) (v2 : Int32) (v3 : Int32) (v4 : Int32) (v5 : Int32) (c : mm_C) : mR Int32 :=
  Option.bind (gI c v0 11 1) fun x1 => if (x1 + (20 : Int32)) ≤ (700 : Int32) then (cV 11 v0 c (fX11_putBytes N v0 v1 c) fun (_ : Unit) c2 => cV 11 v0 c2 (fX11_putBytes N v0 v2 c2) fun (_ : Unit) c3 => cV 11 v0 c3 (fX11_putBytes N v0 v3 c3) fun (_ : Unit) c4 => cV 11 v0 c4 (fX11_putBytes N v0 v4 c4) fun (_ : Unit) c5 => cV 11 v0 c5 (fX11_putBytes N v0 v5 c5) fun (_ : Unit) c6 => Option.bind (gI c6 v0 11 1) fun x7 => some (.inl x7, c6)) else (some (.inl (-1 : Int32), c))
set_option maxRecDepth 100000 in
theorem wX11_feed_0 {Z : mm_Z} {X : mm_T} {k w mc ms d n N : Nat} {Q : mm_O → mm_H → Prop} (C : mm_Ok Z qX11_feed X) (hRm : mt_R X = mm_rm d mc ms) (hd : 2 ≤ d) (hn : n + 1 < 1000000) (hk : k + 1 ≤ mc) (hw : w + 6 ≤ ms) {v0 : Nat} {v1 : Int32} {v2 : Int32} {v3 : Int32} {v4 : Int32} {v5 : Int32} {c : mm_C} (hf : hO 0 ovI n (bX11_feed_0 N  v0 v1 v2 v3 v4 v5 c) Q) : mG Z qX11_feed X k w mc ms Q (0, [(0, .ref v0), (1, .int v1), (2, .int v2), (3, .int v3), (4, .int v4), (5, .int v5)], [], (n, c)) := by
  unfold bX11_feed_0 at hf
  refine mg_aload_n C rfl rfl ?_
  refine mh_gI C rfl rfl rfl (by decide) hf (fun x1 hf => ?_)
  refine mg_bipush (v := 20) C rfl (by decide) ?_
  refine mg_iadd C rfl ?_
  refine mg_sipush (v := 700) C rfl (by decide) ?_
  refine mh_icmp_le C rfl hf (fun e_10 hf => ?_) (fun e_10 hf => ?_)
  · refine mg_aload_n C rfl rfl ?_
    refine mg_iload_n C rfl rfl ?_
    refine mh_cVU (M' := qX11_putBytes) C rfl rfl aX11_putBytes iX11_putBytes sX11_putBytes hRm (by omega) (by decide) (by omega) (by omega) rfl rfl rfl (Nat.le_of_ble_eq_true rfl) rfl hf (fun hs => wX11_putBytes (by omega) (by omega) hs) (fun c2 hf => ?_)
    refine mg_aload_n C rfl rfl ?_
    refine mg_iload_n C rfl rfl ?_
    refine mh_cVU (M' := qX11_putBytes) C rfl rfl aX11_putBytes iX11_putBytes sX11_putBytes hRm (by omega) (by decide) (by omega) (by omega) rfl rfl rfl (Nat.le_of_ble_eq_true rfl) rfl hf (fun hs => wX11_putBytes (by omega) (by omega) hs) (fun c3 hf => ?_)
    refine mg_aload_n C rfl rfl ?_
    refine mg_iload_n C rfl rfl ?_
    refine mh_cVU (M' := qX11_putBytes) C rfl rfl aX11_putBytes iX11_putBytes sX11_putBytes hRm (by omega) (by decide) (by omega) (by omega) rfl rfl rfl (Nat.le_of_ble_eq_true rfl) rfl hf (fun hs => wX11_putBytes (by omega) (by omega) hs) (fun c4 hf => ?_)
    refine mg_aload_n C rfl rfl ?_
    refine mg_iload C rfl rfl ?_
    refine mh_cVU (M' := qX11_putBytes) C rfl rfl aX11_putBytes iX11_putBytes sX11_putBytes hRm (by omega) (by decide) (by omega) (by omega) rfl rfl rfl (Nat.le_of_ble_eq_true rfl) rfl hf (fun hs => wX11_putBytes (by omega) (by omega) hs) (fun c5 hf => ?_)
    refine mg_aload_n C rfl rfl ?_
    refine mg_iload C rfl rfl ?_
    refine mh_cVU (M' := qX11_putBytes) C rfl rfl aX11_putBytes iX11_putBytes sX11_putBytes hRm (by omega) (by decide) (by omega) (by omega) rfl rfl rfl (Nat.le_of_ble_eq_true rfl) rfl hf (fun hs => wX11_putBytes (by omega) (by omega) hs) (fun c6 hf => ?_)
    refine mg_aload_n C rfl rfl ?_
    refine mh_gI C rfl rfl rfl (by decide) hf (fun x7 hf => ?_)
    exact mh_ireturn C rfl (by omega) (by omega) rfl hf
  · refine mg_iconst (v := (-1)) C rfl (by decide) ?_
    exact mh_ireturn C rfl (by omega) (by omega) rfl hf
def fX11_feed (N : Nat) (v0 : Nat) (v1 : Int32) (v2 : Int32) (v3 : Int32) (v4 : Int32) (v5 : Int32) (c : mm_C) : mR Int32 := bX11_feed_0 N v0 v1 v2 v3 v4 v5 c
set_option maxRecDepth 100000 in
theorem wX11_feed {Z : mm_Z} {d n N : Nat} (hd : 2 ≤ d) (hn : n + 1 < 1000000) {v0 : Nat} {v1 : Int32} {v2 : Int32} {v3 : Int32} {v4 : Int32} {v5 : Int32} {c : mm_C} (hs : (fX11_feed N v0 v1 v2 v3 v4 v5 c).isSome = true) : mC Z qX11_feed d 1 6 [.ref v0, .int v1, .int v2, .int v3, .int v4, .int v5] (n, c) (mP 0 ovI n (fX11_feed N v0 v1 v2 v3 v4 v5 c)) := by
  refine mC_of gX11_feed (by decide +kernel) (Nat.le_of_ble_eq_true rfl) fun X C hRm => ?_
  have hf := hO_mP 0 ovI n hs
  have hk : 0 + 1 ≤ 1 := Nat.le_of_ble_eq_true rfl
  have hw : 0 + 6 ≤ 6 := Nat.le_of_ble_eq_true rfl
  show mG _ _ _ _ _ _ _ _ (0, [(0, .ref v0), (1, .int v1), (2, .int v2), (3, .int v3), (4, .int v4), (5, .int v5)], [], (n, c))
  exact wX11_feed_0 C hRm hd hn hk hw hf
def bX11_plan_12 (N : Nat)   (c : mm_C) : mR Int32 :=
  some (.inr 0, c)
set_option maxRecDepth 100000 in
theorem wX11_plan_12 {Z : mm_Z} {X : mm_T} {k w mc ms d n N : Nat} {Q : mm_O → mm_H → Prop} (C : mm_Ok Z qX11_plan X) (hRm : mt_R X = mm_rm d mc ms) (hd : 104 ≤ d) (hn : n + 2 < 1000000) (hk : k + 2 ≤ mc) (hw : w + 12 ≤ ms)  {c : mm_C} (hf : hO 1 ovI n (bX11_plan_12 N   c) Q) : mG Z qX11_plan X k w mc ms Q (12, [], [], (n, c)) := by
  unfold bX11_plan_12 at hf
  exact mh_throw0 C rfl rfl rfl (Or.inl rfl) rfl rfl (by decide) hRm (by omega) (by omega) (by omega) (Nat.le_of_ble_eq_true rfl) rfl (by omega) hf
def bX11_plan_0 (N : Nat)  (v0 : Nat) (v1 : Int32) (c : mm_C) : mR Int32 :=
  if v1 < 0 then (bX11_plan_12 N  c) else (Option.bind (gI c v0 11 1) fun x1 => if v1 ≤ x1 then (Option.bind (gR c v0 11 5) fun x2 => Option.bind (gR c v0 11 0) fun x3 => Option.bind (gR c v0 11 4) fun x4 => cV 2 x2 c (fX2_reads N x2 x3 v1 x4 c) fun r5 c6 => Option.bind (pI c6 v0 11 1 (0 : Int32)) fun c7 => if r5 = 0 then (Option.bind (gR c7 v0 11 4) fun x8 => Option.bind (gR c7 v0 11 3) fun x9 => Option.bind (pR c7 v0 11 4 x9) fun c10 => Option.bind (pR c10 v0 11 3 x8) fun c11 => Option.bind (pI c11 v0 11 2 (-1 : Int32)) fun c12 => Option.bind (pZ c12 v0 11 8 (0 : Int32)) fun c13 => Option.bind (gR c13 v0 11 6) fun x14 => Option.bind (gR c13 v0 11 3) fun x15 => cV 5 x14 c13 (fX5_begins N x14 x15 c13) fun (_ : Unit) c16 => some (.inl (0 : Int32), c16)) else (Option.bind (gR c7 v0 11 5) fun x17 => Option.bind (gI c7 x17 2 0) fun x18 => Option.bind (pI c7 v0 11 2 x18) fun c19 => Option.bind (gR c19 v0 11 6) fun x20 => Option.bind (gR c19 x20 5 7) fun x21 => Option.bind (aI c19 x21 (0 : Int32)) fun x22 => Option.bind (tI c19 x21 (0 : Int32) (x22 + (1 : Int32))) fun c23 => some (.inl r5, c23))) else (bX11_plan_12 N  c))
set_option maxRecDepth 100000 in
theorem wX11_plan_0 {Z : mm_Z} {X : mm_T} {k w mc ms d n N : Nat} {Q : mm_O → mm_H → Prop} (C : mm_Ok Z qX11_plan X) (hRm : mt_R X = mm_rm d mc ms) (hd : 104 ≤ d) (hn : n + 2 < 1000000) (hk : k + 2 ≤ mc) (hw : w + 12 ≤ ms) {v0 : Nat} {v1 : Int32} {c : mm_C} (hf : hO 1 ovI n (bX11_plan_0 N  v0 v1 c) Q) : mG Z qX11_plan X k w mc ms Q (0, [(0, .ref v0), (1, .int v1)], [], (n, c)) := by
  unfold bX11_plan_0 at hf
  refine mg_iload_n C rfl rfl ?_
  refine mh_if_lt C rfl hf (fun e_1 hf => ?_) (fun e_1 hf => ?_)
  · refine mg_sub (lv' := []) (by simp) ?_
    exact wX11_plan_12 C hRm hd hn hk hw hf
  · refine mg_iload_n C rfl rfl ?_
    refine mg_aload_n C rfl rfl ?_
    refine mh_gI C rfl rfl rfl (by decide) hf (fun x1 hf => ?_)
    refine mh_icmp_le C rfl hf (fun e_9 hf => ?_) (fun e_9 hf => ?_)
    · refine mg_aload_n C rfl rfl ?_
      refine mh_gR C rfl rfl rfl (by decide) hf (fun x2 hf => ?_)
      refine mg_aload_n C rfl rfl ?_
      refine mh_gR C rfl rfl rfl (by decide) hf (fun x3 hf => ?_)
      refine mg_iload_n C rfl rfl ?_
      refine mg_aload_n C rfl rfl ?_
      refine mh_gR C rfl rfl rfl (by decide) hf (fun x4 hf => ?_)
      refine mh_c1I (t := 0) (M' := qX2_reads) C rfl rfl awX2_reads iX2_reads sX2_reads hRm (by omega) (by decide) (by omega) (by omega) rfl rfl rfl (Nat.le_of_ble_eq_true rfl) rfl hf (fun hs => wX2_reads (by omega) (by omega) hs) (fun r5 c6 n hn1 hn2 hf => ?_)
      refine mg_istore_n (lv' := [(0, .ref v0), (1, .int v1), (2, .int r5)]) C rfl (Nat.le_of_ble_eq_true rfl) rfl ?_
      refine mg_aload_n C rfl rfl ?_
      refine mg_iconst (v := 0) C rfl (by decide) ?_
      refine mh_pI C rfl rfl rfl (by decide) rfl rfl rfl hf (fun c7 hf => ?_)
      refine mg_iload_n C rfl rfl ?_
      refine mh_if_eq C rfl hf (fun e_45 hf => ?_) (fun e_45 hf => ?_)
      · refine mg_aload_n C rfl rfl ?_
        refine mh_gR C rfl rfl rfl (by decide) hf (fun x8 hf => ?_)
        refine mg_astore_n (lv' := [(0, .ref v0), (1, .int v1), (2, .int r5), (3, .ref x8)]) C rfl (Nat.le_of_ble_eq_true rfl) rfl ?_
        refine mg_aload_n C rfl rfl ?_
        refine mg_aload_n C rfl rfl ?_
        refine mh_gR C rfl rfl rfl (by decide) hf (fun x9 hf => ?_)
        refine mh_pR C rfl rfl rfl (by decide) rfl rfl rfl hf (fun c10 hf => ?_)
        refine mg_aload_n C rfl rfl ?_
        refine mg_aload_n C rfl rfl ?_
        refine mh_pR C rfl rfl rfl (by decide) rfl rfl rfl hf (fun c11 hf => ?_)
        refine mg_aload_n C rfl rfl ?_
        refine mg_iconst (v := (-1)) C rfl (by decide) ?_
        refine mh_pI C rfl rfl rfl (by decide) rfl rfl rfl hf (fun c12 hf => ?_)
        refine mg_aload_n C rfl rfl ?_
        refine mg_iconst (v := 0) C rfl (by decide) ?_
        refine mh_pZ C rfl rfl rfl (by decide) rfl rfl hf (fun c13 hf => ?_)
        refine mg_aload_n C rfl rfl ?_
        refine mh_gR C rfl rfl rfl (by decide) hf (fun x14 hf => ?_)
        refine mg_aload_n C rfl rfl ?_
        refine mh_gR C rfl rfl rfl (by decide) hf (fun x15 hf => ?_)
        refine mh_cVU (M' := qX5_begins) C rfl rfl aX5_begins iX5_begins sX5_begins hRm (by omega) (by decide) (by omega) (by omega) rfl rfl rfl (Nat.le_of_ble_eq_true rfl) rfl hf (fun hs => wX5_begins (by omega) (by omega) hs) (fun c16 hf => ?_)
        refine mg_iconst (v := 0) C rfl (by decide) ?_
        exact mh_ireturn C rfl (by omega) (by omega) rfl hf
      · refine mg_aload_n C rfl rfl ?_
        refine mg_aload_n C rfl rfl ?_
        refine mh_gR C rfl rfl rfl (by decide) hf (fun x17 hf => ?_)
        refine mh_gI C rfl rfl rfl (by decide) hf (fun x18 hf => ?_)
        refine mh_pI C rfl rfl rfl (by decide) rfl rfl rfl hf (fun c19 hf => ?_)
        refine mg_aload_n C rfl rfl ?_
        refine mh_gR C rfl rfl rfl (by decide) hf (fun x20 hf => ?_)
        refine mh_gR C rfl rfl rfl (by decide) hf (fun x21 hf => ?_)
        refine mg_iconst (v := 0) C rfl (by decide) ?_
        refine mg_dup2 C rfl rfl rfl ?_
        refine mh_aI C rfl hf (fun x22 hf => ?_)
        refine mg_iconst (v := 1) C rfl (by decide) ?_
        refine mg_iadd C rfl ?_
        refine mh_tI C rfl hf (fun c23 hf => ?_)
        refine mg_iload_n C rfl rfl ?_
        exact mh_ireturn C rfl (by omega) (by omega) rfl hf
    · refine mg_sub (lv' := []) (by simp) ?_
      exact wX11_plan_12 C hRm hd hn hk hw hf
def fX11_plan (N : Nat) (v0 : Nat) (v1 : Int32) (c : mm_C) : mR Int32 := bX11_plan_0 N v0 v1 c
set_option maxRecDepth 100000 in
theorem wX11_plan {Z : mm_Z} {d n N : Nat} (hd : 104 ≤ d) (hn : n + 2 < 1000000) {v0 : Nat} {v1 : Int32} {c : mm_C} (hs : (fX11_plan N v0 v1 c).isSome = true) : mC Z qX11_plan d 2 12 [.ref v0, .int v1] (n, c) (mP 1 ovI n (fX11_plan N v0 v1 c)) := by
  refine mC_of gX11_plan (by decide +kernel) (Nat.le_of_ble_eq_true rfl) fun X C hRm => ?_
  have hf := hO_mP 1 ovI n hs
  have hk : 0 + 2 ≤ 2 := Nat.le_of_ble_eq_true rfl
  have hw : 0 + 12 ≤ 12 := Nat.le_of_ble_eq_true rfl
  show mG _ _ _ _ _ _ _ _ (0, [(0, .ref v0), (1, .int v1)], [], (n, c))
  exact wX11_plan_0 C hRm hd hn hk hw hf
def bX11_fault_0 (N : Nat)  (v0 : Nat) (c : mm_C) : mR Int32 :=
  Option.bind (gI c v0 11 2) fun x1 => some (.inl x1, c)
set_option maxRecDepth 100000 in
theorem wX11_fault_0 {Z : mm_Z} {X : mm_T} {k w mc ms d n N : Nat} {Q : mm_O → mm_H → Prop} (C : mm_Ok Z qX11_fault X) (hRm : mt_R X = mm_rm d mc ms) (hd : 1 ≤ d) (hn : n + 1 < 1000000) (hk : k + 1 ≤ mc) (hw : w + 6 ≤ ms) {v0 : Nat} {c : mm_C} (hf : hO 0 ovI n (bX11_fault_0 N  v0 c) Q) : mG Z qX11_fault X k w mc ms Q (0, [(0, .ref v0)], [], (n, c)) := by
  unfold bX11_fault_0 at hf
  refine mg_aload_n C rfl rfl ?_
  refine mh_gI C rfl rfl rfl (by decide) hf (fun x1 hf => ?_)
  exact mh_ireturn C rfl (by omega) (by omega) rfl hf
def fX11_fault (N : Nat) (v0 : Nat) (c : mm_C) : mR Int32 := bX11_fault_0 N v0 c
set_option maxRecDepth 100000 in
theorem wX11_fault {Z : mm_Z} {d n N : Nat} (hd : 1 ≤ d) (hn : n + 1 < 1000000) {v0 : Nat} {c : mm_C} (hs : (fX11_fault N v0 c).isSome = true) : mC Z qX11_fault d 1 6 [.ref v0] (n, c) (mP 0 ovI n (fX11_fault N v0 c)) := by
  refine mC_of gX11_fault (by decide +kernel) (Nat.le_of_ble_eq_true rfl) fun X C hRm => ?_
  have hf := hO_mP 0 ovI n hs
  have hk : 0 + 1 ≤ 1 := Nat.le_of_ble_eq_true rfl
  have hw : 0 + 6 ≤ 6 := Nat.le_of_ble_eq_true rfl
  show mG _ _ _ _ _ _ _ _ (0, [(0, .ref v0)], [], (n, c))
  exact wX11_fault_0 C hRm hd hn hk hw hf
def bX11_count_0 (N : Nat)  (v0 : Nat) (v1 : Int32) (c : mm_C) : mR Int32 :=
  Option.bind (gR c v0 11 6) fun x1 => Option.bind (gR c x1 5 0) fun x2 => if v1 = (0 : Int32) then (Option.bind (gR c v0 11 3) fun x3 => Option.bind (gI c x3 3 3) fun x4 => some (.inl x4, c)) else (if v1 = (1 : Int32) then (Option.bind (gR c v0 11 3) fun x5 => Option.bind (gI c x5 3 0) fun x6 => some (.inl x6, c)) else (if v1 = (2 : Int32) then (Option.bind (gR c v0 11 3) fun x7 => Option.bind (gI c x7 3 1) fun x8 => some (.inl x8, c)) else (if v1 = (3 : Int32) then (Option.bind (gR c v0 11 3) fun x9 => Option.bind (gI c x9 3 2) fun x10 => some (.inl x10, c)) else (if v1 = (4 : Int32) then (Option.bind (gR c v0 11 3) fun x11 => Option.bind (gR c x11 3 8) fun x12 => Option.bind (gI c x12 4 0) fun x13 => some (.inl x13, c)) else (if v1 = (5 : Int32) then (Option.bind (gI c x2 9 0) fun x14 => some (.inl x14, c)) else (if v1 = (6 : Int32) then (Option.bind (gI c x2 9 1) fun x15 => if ¬ x15 = (1 : Int32) then (some (.inl (0 : Int32), c)) else (some (.inl (1 : Int32), c))) else (if v1 = (7 : Int32) then (Option.bind (gI c x2 9 2) fun x16 => some (.inl x16, c)) else (if v1 = (8 : Int32) then (Option.bind (gI c x2 9 3) fun x17 => some (.inl x17, c)) else (if v1 = (9 : Int32) then (Option.bind (gI c x2 9 5) fun x18 => if x18 = 0 then (some (.inl (0 : Int32), c)) else (some (.inl (1 : Int32), c))) else (if v1 = (10 : Int32) then (Option.bind (gI c x2 9 6) fun x19 => if x19 = 0 then (some (.inl (0 : Int32), c)) else (some (.inl (1 : Int32), c))) else (if v1 = (11 : Int32) then (Option.bind (gI c x2 9 4) fun x20 => some (.inl x20, c)) else (if v1 = (12 : Int32) then (Option.bind (gR c v0 11 3) fun x21 => Option.bind (gI c x21 3 2) fun x22 => Option.bind (gI c x2 9 4) fun x23 => some (.inl (mnI (100 : Int32) (x22 * x23)), c)) else (if v1 = (13 : Int32) then (Option.bind (gR c v0 11 6) fun x24 => Option.bind (gI c x24 5 2) fun x25 => some (.inl x25, c)) else (if v1 = (14 : Int32) then (Option.bind (gR c v0 11 6) fun x26 => Option.bind (gI c x26 5 6) fun x27 => some (.inl x27, c)) else (if v1 = (15 : Int32) then (Option.bind (gI c v0 11 1) fun x28 => some (.inl x28, c)) else (if v1 = (16 : Int32) then (Option.bind (gR c v0 11 6) fun x29 => Option.bind (gR c x29 5 7) fun x30 => Option.bind (aI c x30 (0 : Int32)) fun x31 => some (.inl x31, c)) else (if v1 = (17 : Int32) then (Option.bind (gR c v0 11 6) fun x32 => Option.bind (gR c x32 5 7) fun x33 => Option.bind (aI c x33 (1 : Int32)) fun x34 => some (.inl x34, c)) else (if v1 = (18 : Int32) then (Option.bind (gR c v0 11 6) fun x35 => Option.bind (gR c x35 5 7) fun x36 => Option.bind (aI c x36 (2 : Int32)) fun x37 => some (.inl x37, c)) else (some (.inr 1, c))))))))))))))))))))
set_option maxRecDepth 100000 in
theorem wX11_count_0 {Z : mm_Z} {X : mm_T} {k w mc ms d n N : Nat} {Q : mm_O → mm_H → Prop} (C : mm_Ok Z qX11_count X) (hRm : mt_R X = mm_rm d mc ms) (hd : 7 ≤ d) (hn : n + 1 < 1000000) (hk : k + 1 ≤ mc) (hw : w + 6 ≤ ms) {v0 : Nat} {v1 : Int32} {c : mm_C} (hf : hO 0 ovI n (bX11_count_0 N  v0 v1 c) Q) : mG Z qX11_count X k w mc ms Q (0, [(0, .ref v0), (1, .int v1)], [], (n, c)) := by
  unfold bX11_count_0 at hf
  refine mg_aload_n C rfl rfl ?_
  refine mh_gR C rfl rfl rfl (by decide) hf (fun x1 hf => ?_)
  refine mh_gR C rfl rfl rfl (by decide) hf (fun x2 hf => ?_)
  refine mg_astore_n (lv' := [(0, .ref v0), (1, .int v1), (2, .ref x2)]) C rfl (Nat.le_of_ble_eq_true rfl) rfl ?_
  refine mg_iload_n C rfl rfl ?_
  refine mh_case hf (fun e_9 hf => ?_) (fun n_1000 hf => ?_)
  · refine mg_tabIn e_9 (tgt := 100) C rfl (by decide) (by decide) rfl (by decide) ?_
    refine mg_aload_n C rfl rfl ?_
    refine mh_gR C rfl rfl rfl (by decide) hf (fun x3 hf => ?_)
    refine mh_gI C rfl rfl rfl (by decide) hf (fun x4 hf => ?_)
    exact mh_ireturn C rfl (by omega) (by omega) rfl hf
  refine mh_case hf (fun e_9 hf => ?_) (fun n_1001 hf => ?_)
  · refine mg_tabIn e_9 (tgt := 108) C rfl (by decide) (by decide) rfl (by decide) ?_
    refine mg_aload_n C rfl rfl ?_
    refine mh_gR C rfl rfl rfl (by decide) hf (fun x5 hf => ?_)
    refine mh_gI C rfl rfl rfl (by decide) hf (fun x6 hf => ?_)
    exact mh_ireturn C rfl (by omega) (by omega) rfl hf
  refine mh_case hf (fun e_9 hf => ?_) (fun n_1002 hf => ?_)
  · refine mg_tabIn e_9 (tgt := 116) C rfl (by decide) (by decide) rfl (by decide) ?_
    refine mg_aload_n C rfl rfl ?_
    refine mh_gR C rfl rfl rfl (by decide) hf (fun x7 hf => ?_)
    refine mh_gI C rfl rfl rfl (by decide) hf (fun x8 hf => ?_)
    exact mh_ireturn C rfl (by omega) (by omega) rfl hf
  refine mh_case hf (fun e_9 hf => ?_) (fun n_1003 hf => ?_)
  · refine mg_tabIn e_9 (tgt := 124) C rfl (by decide) (by decide) rfl (by decide) ?_
    refine mg_aload_n C rfl rfl ?_
    refine mh_gR C rfl rfl rfl (by decide) hf (fun x9 hf => ?_)
    refine mh_gI C rfl rfl rfl (by decide) hf (fun x10 hf => ?_)
    exact mh_ireturn C rfl (by omega) (by omega) rfl hf
  refine mh_case hf (fun e_9 hf => ?_) (fun n_1004 hf => ?_)
  · refine mg_tabIn e_9 (tgt := 132) C rfl (by decide) (by decide) rfl (by decide) ?_
    refine mg_aload_n C rfl rfl ?_
    refine mh_gR C rfl rfl rfl (by decide) hf (fun x11 hf => ?_)
    refine mh_gR C rfl rfl rfl (by decide) hf (fun x12 hf => ?_)
    refine mh_gI C rfl rfl rfl (by decide) hf (fun x13 hf => ?_)
    exact mh_ireturn C rfl (by omega) (by omega) rfl hf
  refine mh_case hf (fun e_9 hf => ?_) (fun n_1005 hf => ?_)
  · refine mg_tabIn e_9 (tgt := 143) C rfl (by decide) (by decide) rfl (by decide) ?_
    refine mg_aload_n C rfl rfl ?_
    refine mh_gI C rfl rfl rfl (by decide) hf (fun x14 hf => ?_)
    exact mh_ireturn C rfl (by omega) (by omega) rfl hf
  refine mh_case hf (fun e_9 hf => ?_) (fun n_1006 hf => ?_)
  · refine mg_tabIn e_9 (tgt := 148) C rfl (by decide) (by decide) rfl (by decide) ?_
    refine mg_aload_n C rfl rfl ?_
    refine mh_gI C rfl rfl rfl (by decide) hf (fun x15 hf => ?_)
    refine mg_iconst (v := 1) C rfl (by decide) ?_
    refine mh_icmp_ne C rfl hf (fun e_153 hf => ?_) (fun e_153 hf => ?_)
    · refine mg_iconst (v := 0) C rfl (by decide) ?_
      exact mh_ireturn C rfl (by omega) (by omega) rfl hf
    · refine mg_iconst (v := 1) C rfl (by decide) ?_
      refine mg_goto C rfl ?_
      exact mh_ireturn C rfl (by omega) (by omega) rfl hf
  refine mh_case hf (fun e_9 hf => ?_) (fun n_1007 hf => ?_)
  · refine mg_tabIn e_9 (tgt := 162) C rfl (by decide) (by decide) rfl (by decide) ?_
    refine mg_aload_n C rfl rfl ?_
    refine mh_gI C rfl rfl rfl (by decide) hf (fun x16 hf => ?_)
    exact mh_ireturn C rfl (by omega) (by omega) rfl hf
  refine mh_case hf (fun e_9 hf => ?_) (fun n_1008 hf => ?_)
  · refine mg_tabIn e_9 (tgt := 167) C rfl (by decide) (by decide) rfl (by decide) ?_
    refine mg_aload_n C rfl rfl ?_
    refine mh_gI C rfl rfl rfl (by decide) hf (fun x17 hf => ?_)
    exact mh_ireturn C rfl (by omega) (by omega) rfl hf
  refine mh_case hf (fun e_9 hf => ?_) (fun n_1009 hf => ?_)
  · refine mg_tabIn e_9 (tgt := 172) C rfl (by decide) (by decide) rfl (by decide) ?_
    refine mg_aload_n C rfl rfl ?_
    refine mh_gI C rfl rfl rfl (by decide) hf (fun x18 hf => ?_)
    refine mh_if_eq C rfl hf (fun e_176 hf => ?_) (fun e_176 hf => ?_)
    · refine mg_iconst (v := 0) C rfl (by decide) ?_
      exact mh_ireturn C rfl (by omega) (by omega) rfl hf
    · refine mg_iconst (v := 1) C rfl (by decide) ?_
      refine mg_goto C rfl ?_
      exact mh_ireturn C rfl (by omega) (by omega) rfl hf
  refine mh_case hf (fun e_9 hf => ?_) (fun n_1010 hf => ?_)
  · refine mg_tabIn e_9 (tgt := 185) C rfl (by decide) (by decide) rfl (by decide) ?_
    refine mg_aload_n C rfl rfl ?_
    refine mh_gI C rfl rfl rfl (by decide) hf (fun x19 hf => ?_)
    refine mh_if_eq C rfl hf (fun e_189 hf => ?_) (fun e_189 hf => ?_)
    · refine mg_iconst (v := 0) C rfl (by decide) ?_
      exact mh_ireturn C rfl (by omega) (by omega) rfl hf
    · refine mg_iconst (v := 1) C rfl (by decide) ?_
      refine mg_goto C rfl ?_
      exact mh_ireturn C rfl (by omega) (by omega) rfl hf
  refine mh_case hf (fun e_9 hf => ?_) (fun n_1011 hf => ?_)
  · refine mg_tabIn e_9 (tgt := 198) C rfl (by decide) (by decide) rfl (by decide) ?_
    refine mg_aload_n C rfl rfl ?_
    refine mh_gI C rfl rfl rfl (by decide) hf (fun x20 hf => ?_)
    exact mh_ireturn C rfl (by omega) (by omega) rfl hf
  refine mh_case hf (fun e_9 hf => ?_) (fun n_1012 hf => ?_)
  · refine mg_tabIn e_9 (tgt := 203) C rfl (by decide) (by decide) rfl (by decide) ?_
    refine mg_bipush (v := 100) C rfl (by decide) ?_
    refine mg_aload_n C rfl rfl ?_
    refine mh_gR C rfl rfl rfl (by decide) hf (fun x21 hf => ?_)
    refine mh_gI C rfl rfl rfl (by decide) hf (fun x22 hf => ?_)
    refine mg_aload_n C rfl rfl ?_
    refine mh_gI C rfl rfl rfl (by decide) hf (fun x23 hf => ?_)
    refine mg_imul C rfl ?_
    refine mh_mnI C rfl rfl hRm (by omega) (Nat.le_of_ble_eq_true rfl) ?_
    exact mh_ireturn C rfl (by omega) (by omega) rfl hf
  refine mh_case hf (fun e_9 hf => ?_) (fun n_1013 hf => ?_)
  · refine mg_tabIn e_9 (tgt := 221) C rfl (by decide) (by decide) rfl (by decide) ?_
    refine mg_aload_n C rfl rfl ?_
    refine mh_gR C rfl rfl rfl (by decide) hf (fun x24 hf => ?_)
    refine mh_gI C rfl rfl rfl (by decide) hf (fun x25 hf => ?_)
    exact mh_ireturn C rfl (by omega) (by omega) rfl hf
  refine mh_case hf (fun e_9 hf => ?_) (fun n_1014 hf => ?_)
  · refine mg_tabIn e_9 (tgt := 229) C rfl (by decide) (by decide) rfl (by decide) ?_
    refine mg_aload_n C rfl rfl ?_
    refine mh_gR C rfl rfl rfl (by decide) hf (fun x26 hf => ?_)
    refine mh_gI C rfl rfl rfl (by decide) hf (fun x27 hf => ?_)
    exact mh_ireturn C rfl (by omega) (by omega) rfl hf
  refine mh_case hf (fun e_9 hf => ?_) (fun n_1015 hf => ?_)
  · refine mg_tabIn e_9 (tgt := 237) C rfl (by decide) (by decide) rfl (by decide) ?_
    refine mg_aload_n C rfl rfl ?_
    refine mh_gI C rfl rfl rfl (by decide) hf (fun x28 hf => ?_)
    exact mh_ireturn C rfl (by omega) (by omega) rfl hf
  refine mh_case hf (fun e_9 hf => ?_) (fun n_1016 hf => ?_)
  · refine mg_tabIn e_9 (tgt := 242) C rfl (by decide) (by decide) rfl (by decide) ?_
    refine mg_aload_n C rfl rfl ?_
    refine mh_gR C rfl rfl rfl (by decide) hf (fun x29 hf => ?_)
    refine mh_gR C rfl rfl rfl (by decide) hf (fun x30 hf => ?_)
    refine mg_iconst (v := 0) C rfl (by decide) ?_
    refine mh_aI C rfl hf (fun x31 hf => ?_)
    exact mh_ireturn C rfl (by omega) (by omega) rfl hf
  refine mh_case hf (fun e_9 hf => ?_) (fun n_1017 hf => ?_)
  · refine mg_tabIn e_9 (tgt := 252) C rfl (by decide) (by decide) rfl (by decide) ?_
    refine mg_aload_n C rfl rfl ?_
    refine mh_gR C rfl rfl rfl (by decide) hf (fun x32 hf => ?_)
    refine mh_gR C rfl rfl rfl (by decide) hf (fun x33 hf => ?_)
    refine mg_iconst (v := 1) C rfl (by decide) ?_
    refine mh_aI C rfl hf (fun x34 hf => ?_)
    exact mh_ireturn C rfl (by omega) (by omega) rfl hf
  refine mh_case hf (fun e_9 hf => ?_) (fun n_1018 hf => ?_)
  · refine mg_tabIn e_9 (tgt := 262) C rfl (by decide) (by decide) rfl (by decide) ?_
    refine mg_aload_n C rfl rfl ?_
    refine mh_gR C rfl rfl rfl (by decide) hf (fun x35 hf => ?_)
    refine mh_gR C rfl rfl rfl (by decide) hf (fun x36 hf => ?_)
    refine mg_iconst (v := 2) C rfl (by decide) ?_
    refine mh_aI C rfl hf (fun x37 hf => ?_)
    exact mh_ireturn C rfl (by omega) (by omega) rfl hf
  refine mg_tableOut (tgt := 272) C rfl (tsw_out [0, 1, 2, 3, 4, 5, 6, 7, 8, 9, 10, 11, 12, 13, 14, 15, 16, 17, 18] (by decide) (List.forall_mem_cons.mpr ⟨n_1000, List.forall_mem_cons.mpr ⟨n_1001, List.forall_mem_cons.mpr ⟨n_1002, List.forall_mem_cons.mpr ⟨n_1003, List.forall_mem_cons.mpr ⟨n_1004, List.forall_mem_cons.mpr ⟨n_1005, List.forall_mem_cons.mpr ⟨n_1006, List.forall_mem_cons.mpr ⟨n_1007, List.forall_mem_cons.mpr ⟨n_1008, List.forall_mem_cons.mpr ⟨n_1009, List.forall_mem_cons.mpr ⟨n_1010, List.forall_mem_cons.mpr ⟨n_1011, List.forall_mem_cons.mpr ⟨n_1012, List.forall_mem_cons.mpr ⟨n_1013, List.forall_mem_cons.mpr ⟨n_1014, List.forall_mem_cons.mpr ⟨n_1015, List.forall_mem_cons.mpr ⟨n_1016, List.forall_mem_cons.mpr ⟨n_1017, List.forall_mem_cons.mpr ⟨n_1018, List.forall_mem_nil _⟩⟩⟩⟩⟩⟩⟩⟩⟩⟩⟩⟩⟩⟩⟩⟩⟩⟩⟩)) (by decide) ?_
  exact mh_throw1 C rfl rfl rfl (Or.inl rfl) rfl rfl (by decide) hRm (by omega) (by omega) (by omega) (Nat.le_of_ble_eq_true rfl) rfl (by omega) hf
def fX11_count (N : Nat) (v0 : Nat) (v1 : Int32) (c : mm_C) : mR Int32 := bX11_count_0 N v0 v1 c
set_option maxRecDepth 100000 in
theorem wX11_count {Z : mm_Z} {d n N : Nat} (hd : 7 ≤ d) (hn : n + 1 < 1000000) {v0 : Nat} {v1 : Int32} {c : mm_C} (hs : (fX11_count N v0 v1 c).isSome = true) : mC Z qX11_count d 1 6 [.ref v0, .int v1] (n, c) (mP 0 ovI n (fX11_count N v0 v1 c)) := by
  refine mC_of gX11_count (by decide +kernel) (Nat.le_of_ble_eq_true rfl) fun X C hRm => ?_
  have hf := hO_mP 0 ovI n hs
  have hk : 0 + 1 ≤ 1 := Nat.le_of_ble_eq_true rfl
  have hw : 0 + 6 ≤ 6 := Nat.le_of_ble_eq_true rfl
  show mG _ _ _ _ _ _ _ _ (0, [(0, .ref v0), (1, .int v1)], [], (n, c))
  exact wX11_count_0 C hRm hd hn hk hw hf
def bX11_requireShot_0 (N : Nat)  (v0 : Nat) (v1 : Int32) (c : mm_C) : mR Unit :=
  Option.bind (gR c v0 11 3) fun x1 => cV 3 x1 c (fX3_isShot N x1 v1 c) fun r2 c3 => if ¬ r2 = 0 then (some (.inl (), c3)) else (some (.inr 1, c3))
set_option maxRecDepth 100000 in
theorem wX11_requireShot_0 {Z : mm_Z} {X : mm_T} {k w mc ms d n N : Nat} {Q : mm_O → mm_H → Prop} (C : mm_Ok Z qX11_requireShot X) (hRm : mt_R X = mm_rm d mc ms) (hd : 7 ≤ d) (hn : n + 1 < 1000000) (hk : k + 1 ≤ mc) (hw : w + 6 ≤ ms) {v0 : Nat} {v1 : Int32} {c : mm_C} (hf : hO 0 ovU n (bX11_requireShot_0 N  v0 v1 c) Q) : mG Z qX11_requireShot X k w mc ms Q (0, [(0, .ref v0), (1, .int v1)], [], (n, c)) := by
  unfold bX11_requireShot_0 at hf
  refine mg_aload_n C rfl rfl ?_
  refine mh_gR C rfl rfl rfl (by decide) hf (fun x1 hf => ?_)
  refine mg_iload_n C rfl rfl ?_
  refine mh_cVI (M' := qX3_isShot) C rfl rfl aX3_isShot iX3_isShot sX3_isShot hRm (by omega) (by decide) (by omega) (by omega) rfl rfl rfl (Nat.le_of_ble_eq_true rfl) rfl hf (fun hs => wX3_isShot (by omega) (by omega) hs) (fun r2 c3 hf => ?_)
  refine mh_if_ne C rfl hf (fun e_8 hf => ?_) (fun e_8 hf => ?_)
  · exact mh_return C rfl (by omega) (by omega) rfl hf
  · exact mh_throw1 C rfl rfl rfl (Or.inr rfl) rfl rfl (by decide) hRm (by omega) (by omega) (by omega) (Nat.le_of_ble_eq_true rfl) rfl (by omega) hf
def fX11_requireShot (N : Nat) (v0 : Nat) (v1 : Int32) (c : mm_C) : mR Unit := bX11_requireShot_0 N v0 v1 c
set_option maxRecDepth 100000 in
theorem wX11_requireShot {Z : mm_Z} {d n N : Nat} (hd : 7 ≤ d) (hn : n + 1 < 1000000) {v0 : Nat} {v1 : Int32} {c : mm_C} (hs : (fX11_requireShot N v0 v1 c).isSome = true) : mC Z qX11_requireShot d 1 6 [.ref v0, .int v1] (n, c) (mP 0 ovU n (fX11_requireShot N v0 v1 c)) := by
  refine mC_of gX11_requireShot (by decide +kernel) (Nat.le_of_ble_eq_true rfl) fun X C hRm => ?_
  have hf := hO_mP 0 ovU n hs
  have hk : 0 + 1 ≤ 1 := Nat.le_of_ble_eq_true rfl
  have hw : 0 + 6 ≤ 6 := Nat.le_of_ble_eq_true rfl
  show mG _ _ _ _ _ _ _ _ (0, [(0, .ref v0), (1, .int v1)], [], (n, c))
  exact wX11_requireShot_0 C hRm hd hn hk hw hf
def bX11_shot_0 (N : Nat)  (v0 : Nat) (v1 : Int32) (v2 : Int32) (c : mm_C) : mR Int32 :=
  cV 11 v0 c (fX11_requireShot N v0 v1 c) fun (_ : Unit) c1 => Option.bind (gR c1 v0 11 3) fun x2 => Option.bind (gR c1 x2 3 6) fun x3 => Option.bind (aR (.object "CloudTakes$Shot") c1 x3 v1) fun x4 => if v2 = (0 : Int32) then (Option.bind (gI c1 x4 7 0) fun x5 => some (.inl x5, c1)) else (if v2 = (1 : Int32) then (Option.bind (gI c1 x4 7 1) fun x6 => some (.inl x6, c1)) else (if v2 = (2 : Int32) then (Option.bind (gI c1 x4 7 2) fun x7 => some (.inl x7, c1)) else (if v2 = (3 : Int32) then (Option.bind (gI c1 x4 7 3) fun x8 => some (.inl x8, c1)) else (if v2 = (4 : Int32) then (Option.bind (gI c1 x4 7 4) fun x9 => some (.inl x9, c1)) else (if v2 = (5 : Int32) then (Option.bind (gI c1 x4 7 5) fun x10 => some (.inl x10, c1)) else (if v2 = (6 : Int32) then (Option.bind (gR c1 v0 11 6) fun x11 => Option.bind (gR c1 x11 5 0) fun x12 => cV 9 x12 c1 (fX9_isHad N x12 v1 c1) fun r13 c14 => if r13 = 0 then (some (.inl (0 : Int32), c14)) else (some (.inl (1 : Int32), c14))) else (if v2 = (7 : Int32) then (Option.bind (gR c1 v0 11 6) fun x15 => Option.bind (gR c1 x15 5 0) fun x16 => Option.bind (gR c1 x16 9 7) fun x17 => Option.bind (aI c1 x17 v1) fun x18 => some (.inl x18, c1)) else (some (.inr 1, c1)))))))))
set_option maxRecDepth 100000 in
theorem wX11_shot_0 {Z : mm_Z} {X : mm_T} {k w mc ms d n N : Nat} {Q : mm_O → mm_H → Prop} (C : mm_Ok Z qX11_shot X) (hRm : mt_R X = mm_rm d mc ms) (hd : 8 ≤ d) (hn : n + 1 < 1000000) (hk : k + 1 ≤ mc) (hw : w + 6 ≤ ms) {v0 : Nat} {v1 : Int32} {v2 : Int32} {c : mm_C} (hf : hO 0 ovI n (bX11_shot_0 N  v0 v1 v2 c) Q) : mG Z qX11_shot X k w mc ms Q (0, [(0, .ref v0), (1, .int v1), (2, .int v2)], [], (n, c)) := by
  unfold bX11_shot_0 at hf
  refine mg_aload_n C rfl rfl ?_
  refine mg_iload_n C rfl rfl ?_
  refine mh_cVU (M' := qX11_requireShot) C rfl rfl aX11_requireShot iX11_requireShot sX11_requireShot hRm (by omega) (by decide) (by omega) (by omega) rfl rfl rfl (Nat.le_of_ble_eq_true rfl) rfl hf (fun hs => wX11_requireShot (by omega) (by omega) hs) (fun c1 hf => ?_)
  refine mg_aload_n C rfl rfl ?_
  refine mh_gR C rfl rfl rfl (by decide) hf (fun x2 hf => ?_)
  refine mh_gR C rfl rfl rfl (by decide) hf (fun x3 hf => ?_)
  refine mg_iload_n C rfl rfl ?_
  refine mh_aR (ti := 4) C rfl rfl rfl hf (fun x4 hf => ?_)
  refine mg_astore_n (lv' := [(0, .ref v0), (1, .int v1), (2, .int v2), (3, .ref x4)]) C rfl (Nat.le_of_ble_eq_true rfl) rfl ?_
  refine mg_iload_n C rfl rfl ?_
  refine mh_case hf (fun e_16 hf => ?_) (fun n_1000 hf => ?_)
  · refine mg_tabIn e_16 (tgt := 64) C rfl (by decide) (by decide) rfl (by decide) ?_
    refine mg_aload_n C rfl rfl ?_
    refine mh_gI C rfl rfl rfl (by decide) hf (fun x5 hf => ?_)
    exact mh_ireturn C rfl (by omega) (by omega) rfl hf
  refine mh_case hf (fun e_16 hf => ?_) (fun n_1001 hf => ?_)
  · refine mg_tabIn e_16 (tgt := 69) C rfl (by decide) (by decide) rfl (by decide) ?_
    refine mg_aload_n C rfl rfl ?_
    refine mh_gI C rfl rfl rfl (by decide) hf (fun x6 hf => ?_)
    exact mh_ireturn C rfl (by omega) (by omega) rfl hf
  refine mh_case hf (fun e_16 hf => ?_) (fun n_1002 hf => ?_)
  · refine mg_tabIn e_16 (tgt := 74) C rfl (by decide) (by decide) rfl (by decide) ?_
    refine mg_aload_n C rfl rfl ?_
    refine mh_gI C rfl rfl rfl (by decide) hf (fun x7 hf => ?_)
    exact mh_ireturn C rfl (by omega) (by omega) rfl hf
  refine mh_case hf (fun e_16 hf => ?_) (fun n_1003 hf => ?_)
  · refine mg_tabIn e_16 (tgt := 79) C rfl (by decide) (by decide) rfl (by decide) ?_
    refine mg_aload_n C rfl rfl ?_
    refine mh_gI C rfl rfl rfl (by decide) hf (fun x8 hf => ?_)
    exact mh_ireturn C rfl (by omega) (by omega) rfl hf
  refine mh_case hf (fun e_16 hf => ?_) (fun n_1004 hf => ?_)
  · refine mg_tabIn e_16 (tgt := 84) C rfl (by decide) (by decide) rfl (by decide) ?_
    refine mg_aload_n C rfl rfl ?_
    refine mh_gI C rfl rfl rfl (by decide) hf (fun x9 hf => ?_)
    exact mh_ireturn C rfl (by omega) (by omega) rfl hf
  refine mh_case hf (fun e_16 hf => ?_) (fun n_1005 hf => ?_)
  · refine mg_tabIn e_16 (tgt := 89) C rfl (by decide) (by decide) rfl (by decide) ?_
    refine mg_aload_n C rfl rfl ?_
    refine mh_gI C rfl rfl rfl (by decide) hf (fun x10 hf => ?_)
    exact mh_ireturn C rfl (by omega) (by omega) rfl hf
  refine mh_case hf (fun e_16 hf => ?_) (fun n_1006 hf => ?_)
  · refine mg_tabIn e_16 (tgt := 94) C rfl (by decide) (by decide) rfl (by decide) ?_
    refine mg_aload_n C rfl rfl ?_
    refine mh_gR C rfl rfl rfl (by decide) hf (fun x11 hf => ?_)
    refine mh_gR C rfl rfl rfl (by decide) hf (fun x12 hf => ?_)
    refine mg_iload_n C rfl rfl ?_
    refine mh_cVI (M' := qX9_isHad) C rfl rfl aX9_isHad iX9_isHad sX9_isHad hRm (by omega) (by decide) (by omega) (by omega) rfl rfl rfl (Nat.le_of_ble_eq_true rfl) rfl hf (fun hs => wX9_isHad (by omega) (by omega) hs) (fun r13 c14 hf => ?_)
    refine mh_if_eq C rfl hf (fun e_105 hf => ?_) (fun e_105 hf => ?_)
    · refine mg_iconst (v := 0) C rfl (by decide) ?_
      exact mh_ireturn C rfl (by omega) (by omega) rfl hf
    · refine mg_iconst (v := 1) C rfl (by decide) ?_
      refine mg_goto C rfl ?_
      exact mh_ireturn C rfl (by omega) (by omega) rfl hf
  refine mh_case hf (fun e_16 hf => ?_) (fun n_1007 hf => ?_)
  · refine mg_tabIn e_16 (tgt := 114) C rfl (by decide) (by decide) rfl (by decide) ?_
    refine mg_aload_n C rfl rfl ?_
    refine mh_gR C rfl rfl rfl (by decide) hf (fun x15 hf => ?_)
    refine mh_gR C rfl rfl rfl (by decide) hf (fun x16 hf => ?_)
    refine mh_gR C rfl rfl rfl (by decide) hf (fun x17 hf => ?_)
    refine mg_iload_n C rfl rfl ?_
    refine mh_aI C rfl hf (fun x18 hf => ?_)
    exact mh_ireturn C rfl (by omega) (by omega) rfl hf
  refine mg_tableOut (tgt := 127) C rfl (tsw_out [0, 1, 2, 3, 4, 5, 6, 7] (by decide) (List.forall_mem_cons.mpr ⟨n_1000, List.forall_mem_cons.mpr ⟨n_1001, List.forall_mem_cons.mpr ⟨n_1002, List.forall_mem_cons.mpr ⟨n_1003, List.forall_mem_cons.mpr ⟨n_1004, List.forall_mem_cons.mpr ⟨n_1005, List.forall_mem_cons.mpr ⟨n_1006, List.forall_mem_cons.mpr ⟨n_1007, List.forall_mem_nil _⟩⟩⟩⟩⟩⟩⟩⟩)) (by decide) ?_
  exact mh_throw1 C rfl rfl rfl (Or.inl rfl) rfl rfl (by decide) hRm (by omega) (by omega) (by omega) (Nat.le_of_ble_eq_true rfl) rfl (by omega) hf
def fX11_shot (N : Nat) (v0 : Nat) (v1 : Int32) (v2 : Int32) (c : mm_C) : mR Int32 := bX11_shot_0 N v0 v1 v2 c
set_option maxRecDepth 100000 in
theorem wX11_shot {Z : mm_Z} {d n N : Nat} (hd : 8 ≤ d) (hn : n + 1 < 1000000) {v0 : Nat} {v1 : Int32} {v2 : Int32} {c : mm_C} (hs : (fX11_shot N v0 v1 v2 c).isSome = true) : mC Z qX11_shot d 1 6 [.ref v0, .int v1, .int v2] (n, c) (mP 0 ovI n (fX11_shot N v0 v1 v2 c)) := by
  refine mC_of gX11_shot (by decide +kernel) (Nat.le_of_ble_eq_true rfl) fun X C hRm => ?_
  have hf := hO_mP 0 ovI n hs
  have hk : 0 + 1 ≤ 1 := Nat.le_of_ble_eq_true rfl
  have hw : 0 + 6 ≤ 6 := Nat.le_of_ble_eq_true rfl
  show mG _ _ _ _ _ _ _ _ (0, [(0, .ref v0), (1, .int v1), (2, .int v2)], [], (n, c))
  exact wX11_shot_0 C hRm hd hn hk hw hf
def bX11_lookAround_0 (N : Nat)  (v0 : Nat) (c : mm_C) : mR Unit :=
  Option.bind (gR c v0 11 10) fun x1 => Option.bind (gR c v0 11 3) fun x2 => Option.bind (gR c v0 11 6) fun x3 => Option.bind (gR c x3 5 0) fun x4 => Option.bind (gR c v0 11 3) fun x5 => Option.bind (gI c x5 3 0) fun x6 => cV 1 x1 c (fX1_looks N x1 x2 x4 x6 c) fun (_ : Unit) c7 => some (.inl (), c7)
set_option maxRecDepth 100000 in
theorem wX11_lookAround_0 {Z : mm_Z} {X : mm_T} {k w mc ms d n N : Nat} {Q : mm_O → mm_H → Prop} (C : mm_Ok Z qX11_lookAround X) (hRm : mt_R X = mm_rm d mc ms) (hd : 3 ≤ d) (hn : n + 1 < 1000000) (hk : k + 1 ≤ mc) (hw : w + 6 ≤ ms) {v0 : Nat} {c : mm_C} (hf : hO 0 ovU n (bX11_lookAround_0 N  v0 c) Q) : mG Z qX11_lookAround X k w mc ms Q (0, [(0, .ref v0)], [], (n, c)) := by
  unfold bX11_lookAround_0 at hf
  refine mg_aload_n C rfl rfl ?_
  refine mh_gR C rfl rfl rfl (by decide) hf (fun x1 hf => ?_)
  refine mg_aload_n C rfl rfl ?_
  refine mh_gR C rfl rfl rfl (by decide) hf (fun x2 hf => ?_)
  refine mg_aload_n C rfl rfl ?_
  refine mh_gR C rfl rfl rfl (by decide) hf (fun x3 hf => ?_)
  refine mh_gR C rfl rfl rfl (by decide) hf (fun x4 hf => ?_)
  refine mg_aload_n C rfl rfl ?_
  refine mh_gR C rfl rfl rfl (by decide) hf (fun x5 hf => ?_)
  refine mh_gI C rfl rfl rfl (by decide) hf (fun x6 hf => ?_)
  refine mh_cVU (M' := qX1_looks) C rfl rfl aX1_looks iX1_looks sX1_looks hRm (by omega) (by decide) (by omega) (by omega) rfl rfl rfl (Nat.le_of_ble_eq_true rfl) rfl hf (fun hs => wX1_looks (by omega) (by omega) hs) (fun c7 hf => ?_)
  exact mh_return C rfl (by omega) (by omega) rfl hf
def fX11_lookAround (N : Nat) (v0 : Nat) (c : mm_C) : mR Unit := bX11_lookAround_0 N v0 c
set_option maxRecDepth 100000 in
theorem wX11_lookAround {Z : mm_Z} {d n N : Nat} (hd : 3 ≤ d) (hn : n + 1 < 1000000) {v0 : Nat} {c : mm_C} (hs : (fX11_lookAround N v0 c).isSome = true) : mC Z qX11_lookAround d 1 6 [.ref v0] (n, c) (mP 0 ovU n (fX11_lookAround N v0 c)) := by
  refine mC_of gX11_lookAround (by decide +kernel) (Nat.le_of_ble_eq_true rfl) fun X C hRm => ?_
  have hf := hO_mP 0 ovU n hs
  have hk : 0 + 1 ≤ 1 := Nat.le_of_ble_eq_true rfl
  have hw : 0 + 6 ≤ 6 := Nat.le_of_ble_eq_true rfl
  show mG _ _ _ _ _ _ _ _ (0, [(0, .ref v0)], [], (n, c))
  exact wX11_lookAround_0 C hRm hd hn hk hw hf
def bX11_requireMinute_0 (N : Nat)  (v0 : Nat) (v1 : Int32) (c : mm_C) : mR Unit :=
  Option.bind (gR c v0 11 3) fun x1 => cV 3 x1 c (fX3_isMinute N x1 v1 c) fun r2 c3 => if ¬ r2 = 0 then (some (.inl (), c3)) else (some (.inr 1, c3))
set_option maxRecDepth 100000 in
theorem wX11_requireMinute_0 {Z : mm_Z} {X : mm_T} {k w mc ms d n N : Nat} {Q : mm_O → mm_H → Prop} (C : mm_Ok Z qX11_requireMinute X) (hRm : mt_R X = mm_rm d mc ms) (hd : 7 ≤ d) (hn : n + 1 < 1000000) (hk : k + 1 ≤ mc) (hw : w + 6 ≤ ms) {v0 : Nat} {v1 : Int32} {c : mm_C} (hf : hO 0 ovU n (bX11_requireMinute_0 N  v0 v1 c) Q) : mG Z qX11_requireMinute X k w mc ms Q (0, [(0, .ref v0), (1, .int v1)], [], (n, c)) := by
  unfold bX11_requireMinute_0 at hf
  refine mg_aload_n C rfl rfl ?_
  refine mh_gR C rfl rfl rfl (by decide) hf (fun x1 hf => ?_)
  refine mg_iload_n C rfl rfl ?_
  refine mh_cVI (M' := qX3_isMinute) C rfl rfl aX3_isMinute iX3_isMinute sX3_isMinute hRm (by omega) (by decide) (by omega) (by omega) rfl rfl rfl (Nat.le_of_ble_eq_true rfl) rfl hf (fun hs => wX3_isMinute (by omega) (by omega) hs) (fun r2 c3 hf => ?_)
  refine mh_if_ne C rfl hf (fun e_8 hf => ?_) (fun e_8 hf => ?_)
  · exact mh_return C rfl (by omega) (by omega) rfl hf
  · exact mh_throw1 C rfl rfl rfl (Or.inr rfl) rfl rfl (by decide) hRm (by omega) (by omega) (by omega) (Nat.le_of_ble_eq_true rfl) rfl (by omega) hf
def fX11_requireMinute (N : Nat) (v0 : Nat) (v1 : Int32) (c : mm_C) : mR Unit := bX11_requireMinute_0 N v0 v1 c
set_option maxRecDepth 100000 in
theorem wX11_requireMinute {Z : mm_Z} {d n N : Nat} (hd : 7 ≤ d) (hn : n + 1 < 1000000) {v0 : Nat} {v1 : Int32} {c : mm_C} (hs : (fX11_requireMinute N v0 v1 c).isSome = true) : mC Z qX11_requireMinute d 1 6 [.ref v0, .int v1] (n, c) (mP 0 ovU n (fX11_requireMinute N v0 v1 c)) := by
  refine mC_of gX11_requireMinute (by decide +kernel) (Nat.le_of_ble_eq_true rfl) fun X C hRm => ?_
  have hf := hO_mP 0 ovU n hs
  have hk : 0 + 1 ≤ 1 := Nat.le_of_ble_eq_true rfl
  have hw : 0 + 6 ≤ 6 := Nat.le_of_ble_eq_true rfl
  show mG _ _ _ _ _ _ _ _ (0, [(0, .ref v0), (1, .int v1)], [], (n, c))
  exact wX11_requireMinute_0 C hRm hd hn hk hw hf
def bX11_requireWhat_9 (N : Nat)   (c : mm_C) : mR Unit :=
  some (.inr 1, c)
set_option maxRecDepth 100000 in
theorem wX11_requireWhat_9 {Z : mm_Z} {X : mm_T} {k w mc ms d n N : Nat} {Q : mm_O → mm_H → Prop} (C : mm_Ok Z qX11_requireWhat X) (hRm : mt_R X = mm_rm d mc ms) (hd : 7 ≤ d) (hn : n + 1 < 1000000) (hk : k + 1 ≤ mc) (hw : w + 6 ≤ ms)  {c : mm_C} (hf : hO 0 ovU n (bX11_requireWhat_9 N   c) Q) : mG Z qX11_requireWhat X k w mc ms Q (9, [], [], (n, c)) := by
  unfold bX11_requireWhat_9 at hf
  exact mh_throw1 C rfl rfl rfl (Or.inl rfl) rfl rfl (by decide) hRm (by omega) (by omega) (by omega) (Nat.le_of_ble_eq_true rfl) rfl (by omega) hf
def bX11_requireWhat_0 (N : Nat)  (v0 : Int32) (v1 : Int32) (c : mm_C) : mR Unit :=
  if v0 < 0 then (bX11_requireWhat_9 N  c) else (if v0 ≤ v1 then (some (.inl (), c)) else (bX11_requireWhat_9 N  c))
set_option maxRecDepth 100000 in
theorem wX11_requireWhat_0 {Z : mm_Z} {X : mm_T} {k w mc ms d n N : Nat} {Q : mm_O → mm_H → Prop} (C : mm_Ok Z qX11_requireWhat X) (hRm : mt_R X = mm_rm d mc ms) (hd : 7 ≤ d) (hn : n + 1 < 1000000) (hk : k + 1 ≤ mc) (hw : w + 6 ≤ ms) {v0 : Int32} {v1 : Int32} {c : mm_C} (hf : hO 0 ovU n (bX11_requireWhat_0 N  v0 v1 c) Q) : mG Z qX11_requireWhat X k w mc ms Q (0, [(0, .int v0), (1, .int v1)], [], (n, c)) := by
  unfold bX11_requireWhat_0 at hf
  refine mg_iload_n C rfl rfl ?_
  refine mh_if_lt C rfl hf (fun e_1 hf => ?_) (fun e_1 hf => ?_)
  · refine mg_sub (lv' := []) (by simp) ?_
    exact wX11_requireWhat_9 C hRm hd hn hk hw hf
  · refine mg_iload_n C rfl rfl ?_
    refine mg_iload_n C rfl rfl ?_
    refine mh_icmp_le C rfl hf (fun e_6 hf => ?_) (fun e_6 hf => ?_)
    · exact mh_return C rfl (by omega) (by omega) rfl hf
    · refine mg_sub (lv' := []) (by simp) ?_
      exact wX11_requireWhat_9 C hRm hd hn hk hw hf
def fX11_requireWhat (N : Nat) (v0 : Int32) (v1 : Int32) (c : mm_C) : mR Unit := bX11_requireWhat_0 N v0 v1 c
set_option maxRecDepth 100000 in
theorem wX11_requireWhat {Z : mm_Z} {d n N : Nat} (hd : 7 ≤ d) (hn : n + 1 < 1000000) {v0 : Int32} {v1 : Int32} {c : mm_C} (hs : (fX11_requireWhat N v0 v1 c).isSome = true) : mC Z qX11_requireWhat d 1 6 [.int v0, .int v1] (n, c) (mP 0 ovU n (fX11_requireWhat N v0 v1 c)) := by
  refine mC_of gX11_requireWhat (by decide +kernel) (Nat.le_of_ble_eq_true rfl) fun X C hRm => ?_
  have hf := hO_mP 0 ovU n hs
  have hk : 0 + 1 ≤ 1 := Nat.le_of_ble_eq_true rfl
  have hw : 0 + 6 ≤ 6 := Nat.le_of_ble_eq_true rfl
  show mG _ _ _ _ _ _ _ _ (0, [(0, .int v0), (1, .int v1)], [], (n, c))
  exact wX11_requireWhat_0 C hRm hd hn hk hw hf
def bX11_sky_0 (N : Nat)  (v0 : Nat) (v1 : Int32) (v2 : Int32) (c : mm_C) : mR Int32 :=
  cV 11 v0 c (fX11_requireMinute N v0 v1 c) fun (_ : Unit) c1 => cS (fX11_requireWhat N v2 (1 : Int32) c1) fun (_ : Unit) c2 => if ¬ v2 = 0 then (cV 11 v0 c2 (fX11_lookAround N v0 c2) fun (_ : Unit) c3 => Option.bind (gR c3 v0 11 10) fun x4 => Option.bind (gR c3 x4 1 0) fun x5 => Option.bind (aI c3 x5 v1) fun x6 => some (.inl x6, c3)) else (Option.bind (gR c2 v0 11 6) fun x7 => Option.bind (gR c2 x7 5 0) fun x8 => Option.bind (gR c2 x8 9 8) fun x9 => cV 8 x9 c2 (fX8_isSun N x9 v1 c2) fun r10 c11 => if r10 = 0 then (some (.inl (0 : Int32), c11)) else (some (.inl (1 : Int32), c11)))
set_option maxRecDepth 100000 in
theorem wX11_sky_0 {Z : mm_Z} {X : mm_T} {k w mc ms d n N : Nat} {Q : mm_O → mm_H → Prop} (C : mm_Ok Z qX11_sky X) (hRm : mt_R X = mm_rm d mc ms) (hd : 8 ≤ d) (hn : n + 1 < 1000000) (hk : k + 1 ≤ mc) (hw : w + 6 ≤ ms) {v0 : Nat} {v1 : Int32} {v2 : Int32} {c : mm_C} (hf : hO 0 ovI n (bX11_sky_0 N  v0 v1 v2 c) Q) : mG Z qX11_sky X k w mc ms Q (0, [(0, .ref v0), (1, .int v1), (2, .int v2)], [], (n, c)) := by
  unfold bX11_sky_0 at hf
  refine mg_aload_n C rfl rfl ?_
  refine mg_iload_n C rfl rfl ?_
  refine mh_cVU (M' := qX11_requireMinute) C rfl rfl aX11_requireMinute iX11_requireMinute sX11_requireMinute hRm (by omega) (by decide) (by omega) (by omega) rfl rfl rfl (Nat.le_of_ble_eq_true rfl) rfl hf (fun hs => wX11_requireMinute (by omega) (by omega) hs) (fun c1 hf => ?_)
  refine mg_iload_n C rfl rfl ?_
  refine mg_iconst (v := 1) C rfl (by decide) ?_
  refine mh_cSU (M' := qX11_requireWhat) C rfl rfl aX11_requireWhat tX11_requireWhat hRm (by omega) (by decide) (by omega) (by omega) rfl rfl (Nat.le_of_ble_eq_true rfl) rfl hf (fun hs => wX11_requireWhat (by omega) (by omega) hs) (fun c2 hf => ?_)
  refine mg_iload_n C rfl rfl ?_
  refine mh_if_ne C rfl hf (fun e_11 hf => ?_) (fun e_11 hf => ?_)
  · refine mg_aload_n C rfl rfl ?_
    refine mh_cVU (M' := qX11_lookAround) C rfl rfl aX11_lookAround iX11_lookAround sX11_lookAround hRm (by omega) (by decide) (by omega) (by omega) rfl rfl rfl (Nat.le_of_ble_eq_true rfl) rfl hf (fun hs => wX11_lookAround (by omega) (by omega) hs) (fun c3 hf => ?_)
    refine mg_aload_n C rfl rfl ?_
    refine mh_gR C rfl rfl rfl (by decide) hf (fun x4 hf => ?_)
    refine mh_gR C rfl rfl rfl (by decide) hf (fun x5 hf => ?_)
    refine mg_iload_n C rfl rfl ?_
    refine mh_aI C rfl hf (fun x6 hf => ?_)
    exact mh_ireturn C rfl (by omega) (by omega) rfl hf
  · refine mg_aload_n C rfl rfl ?_
    refine mh_gR C rfl rfl rfl (by decide) hf (fun x7 hf => ?_)
    refine mh_gR C rfl rfl rfl (by decide) hf (fun x8 hf => ?_)
    refine mh_gR C rfl rfl rfl (by decide) hf (fun x9 hf => ?_)
    refine mg_iload_n C rfl rfl ?_
    refine mh_cVI (M' := qX8_isSun) C rfl rfl aX8_isSun iX8_isSun sX8_isSun hRm (by omega) (by decide) (by omega) (by omega) rfl rfl rfl (Nat.le_of_ble_eq_true rfl) rfl hf (fun hs => wX8_isSun (by omega) (by omega) hs) (fun r10 c11 hf => ?_)
    refine mh_if_eq C rfl hf (fun e_28 hf => ?_) (fun e_28 hf => ?_)
    · refine mg_iconst (v := 0) C rfl (by decide) ?_
      exact mh_ireturn C rfl (by omega) (by omega) rfl hf
    · refine mg_iconst (v := 1) C rfl (by decide) ?_
      refine mg_goto C rfl ?_
      exact mh_ireturn C rfl (by omega) (by omega) rfl hf
def fX11_sky (N : Nat) (v0 : Nat) (v1 : Int32) (v2 : Int32) (c : mm_C) : mR Int32 := bX11_sky_0 N v0 v1 v2 c
set_option maxRecDepth 100000 in
theorem wX11_sky {Z : mm_Z} {d n N : Nat} (hd : 8 ≤ d) (hn : n + 1 < 1000000) {v0 : Nat} {v1 : Int32} {v2 : Int32} {c : mm_C} (hs : (fX11_sky N v0 v1 v2 c).isSome = true) : mC Z qX11_sky d 1 6 [.ref v0, .int v1, .int v2] (n, c) (mP 0 ovI n (fX11_sky N v0 v1 v2 c)) := by
  refine mC_of gX11_sky (by decide +kernel) (Nat.le_of_ble_eq_true rfl) fun X C hRm => ?_
  have hf := hO_mP 0 ovI n hs
  have hk : 0 + 1 ≤ 1 := Nat.le_of_ble_eq_true rfl
  have hw : 0 + 6 ≤ 6 := Nat.le_of_ble_eq_true rfl
  show mG _ _ _ _ _ _ _ _ (0, [(0, .ref v0), (1, .int v1), (2, .int v2)], [], (n, c))
  exact wX11_sky_0 C hRm hd hn hk hw hf
def bX11_why_0 (N : Nat)  (v0 : Nat) (v1 : Int32) (v2 : Int32) (c : mm_C) : mR Int32 :=
  cV 11 v0 c (fX11_requireShot N v0 v1 c) fun (_ : Unit) c1 => cV 11 v0 c1 (fX11_requireMinute N v0 v2 c1) fun (_ : Unit) c2 => cV 11 v0 c2 (fX11_lookAround N v0 c2) fun (_ : Unit) c3 => Option.bind (gR c3 v0 11 10) fun x4 => cV 1 x4 c3 (fX1_hindrance N x4 v1 v2 c3) fun r5 c6 => some (.inl r5, c6)
set_option maxRecDepth 100000 in
theorem wX11_why_0 {Z : mm_Z} {X : mm_T} {k w mc ms d n N : Nat} {Q : mm_O → mm_H → Prop} (C : mm_Ok Z qX11_why X) (hRm : mt_R X = mm_rm d mc ms) (hd : 8 ≤ d) (hn : n + 1 < 1000000) (hk : k + 1 ≤ mc) (hw : w + 6 ≤ ms) {v0 : Nat} {v1 : Int32} {v2 : Int32} {c : mm_C} (hf : hO 0 ovI n (bX11_why_0 N  v0 v1 v2 c) Q) : mG Z qX11_why X k w mc ms Q (0, [(0, .ref v0), (1, .int v1), (2, .int v2)], [], (n, c)) := by
  unfold bX11_why_0 at hf
  refine mg_aload_n C rfl rfl ?_
  refine mg_iload_n C rfl rfl ?_
  refine mh_cVU (M' := qX11_requireShot) C rfl rfl aX11_requireShot iX11_requireShot sX11_requireShot hRm (by omega) (by decide) (by omega) (by omega) rfl rfl rfl (Nat.le_of_ble_eq_true rfl) rfl hf (fun hs => wX11_requireShot (by omega) (by omega) hs) (fun c1 hf => ?_)
  refine mg_aload_n C rfl rfl ?_
  refine mg_iload_n C rfl rfl ?_
  refine mh_cVU (M' := qX11_requireMinute) C rfl rfl aX11_requireMinute iX11_requireMinute sX11_requireMinute hRm (by omega) (by decide) (by omega) (by omega) rfl rfl rfl (Nat.le_of_ble_eq_true rfl) rfl hf (fun hs => wX11_requireMinute (by omega) (by omega) hs) (fun c2 hf => ?_)
  refine mg_aload_n C rfl rfl ?_
  refine mh_cVU (M' := qX11_lookAround) C rfl rfl aX11_lookAround iX11_lookAround sX11_lookAround hRm (by omega) (by decide) (by omega) (by omega) rfl rfl rfl (Nat.le_of_ble_eq_true rfl) rfl hf (fun hs => wX11_lookAround (by omega) (by omega) hs) (fun c3 hf => ?_)
  refine mg_aload_n C rfl rfl ?_
  refine mh_gR C rfl rfl rfl (by decide) hf (fun x4 hf => ?_)
  refine mg_iload_n C rfl rfl ?_
  refine mg_iload_n C rfl rfl ?_
  refine mh_cVI (M' := qX1_hindrance) C rfl rfl aX1_hindrance iX1_hindrance sX1_hindrance hRm (by omega) (by decide) (by omega) (by omega) rfl rfl rfl (Nat.le_of_ble_eq_true rfl) rfl hf (fun hs => wX1_hindrance (by omega) (by omega) hs) (fun r5 c6 hf => ?_)
  exact mh_ireturn C rfl (by omega) (by omega) rfl hf
def fX11_why (N : Nat) (v0 : Nat) (v1 : Int32) (v2 : Int32) (c : mm_C) : mR Int32 := bX11_why_0 N v0 v1 v2 c
set_option maxRecDepth 100000 in
theorem wX11_why {Z : mm_Z} {d n N : Nat} (hd : 8 ≤ d) (hn : n + 1 < 1000000) {v0 : Nat} {v1 : Int32} {v2 : Int32} {c : mm_C} (hs : (fX11_why N v0 v1 v2 c).isSome = true) : mC Z qX11_why d 1 6 [.ref v0, .int v1, .int v2] (n, c) (mP 0 ovI n (fX11_why N v0 v1 v2 c)) := by
  refine mC_of gX11_why (by decide +kernel) (Nat.le_of_ble_eq_true rfl) fun X C hRm => ?_
  have hf := hO_mP 0 ovI n hs
  have hk : 0 + 1 ≤ 1 := Nat.le_of_ble_eq_true rfl
  have hw : 0 + 6 ≤ 6 := Nat.le_of_ble_eq_true rfl
  show mG _ _ _ _ _ _ _ _ (0, [(0, .ref v0), (1, .int v1), (2, .int v2)], [], (n, c))
  exact wX11_why_0 C hRm hd hn hk hw hf
def bX11_ready_48 (N : Nat)  (v2 : Int32) (c : mm_C) : mR Int32 :=
  some (.inl v2, c)
set_option maxRecDepth 100000 in
theorem wX11_ready_48 {Z : mm_Z} {X : mm_T} {k w mc ms d n N : Nat} {Q : mm_O → mm_H → Prop} (C : mm_Ok Z qX11_ready X) (hRm : mt_R X = mm_rm d mc ms) (hd : 8 ≤ d) (hn : n + 1 < 1000000) (hk : k + 1 ≤ mc) (hw : w + 6 ≤ ms) {v2 : Int32} {c : mm_C} (hf : hO 0 ovI n (bX11_ready_48 N  v2 c) Q) : mG Z qX11_ready X k w mc ms Q (48, [(2, .int v2)], [], (n, c)) := by
  unfold bX11_ready_48 at hf
  refine mg_iload_n C rfl rfl ?_
  exact mh_ireturn C rfl (by omega) (by omega) rfl hf
def bX11_ready_42 (N : Nat)  (k13 : Nat → Int32 → Int32 → Int32 → mm_C → mR Int32) (v0 : Nat) (v1 : Int32) (v2 : Int32) (v3 : Int32) (c : mm_C) : mR Int32 :=
  k13 v0 v1 v2 (v3 + 1) c
set_option maxRecDepth 100000 in
theorem wX11_ready_42 {Z : mm_Z} {X : mm_T} {k w mc ms d n N : Nat} {Q : mm_O → mm_H → Prop} (C : mm_Ok Z qX11_ready X) (hRm : mt_R X = mm_rm d mc ms) (hd : 8 ≤ d) (hn : n + 1 < 1000000) (hk : k + 1 ≤ mc) (hw : w + 6 ≤ ms) {k13 : Nat → Int32 → Int32 → Int32 → mm_C → mR Int32} (hk13 : ∀ (v0 : Nat) (v1 : Int32) (v2 : Int32) (v3 : Int32) (c : mm_C), hO 0 ovI n (k13 v0 v1 v2 v3 c) Q → mG Z qX11_ready X k w mc ms Q (13, [(0, .ref v0), (1, .int v1), (2, .int v2), (3, .int v3)], [], (n, c))) {v0 : Nat} {v1 : Int32} {v2 : Int32} {v3 : Int32} {c : mm_C} (hf : hO 0 ovI n (bX11_ready_42 N  k13 v0 v1 v2 v3 c) Q) : mG Z qX11_ready X k w mc ms Q (42, [(0, .ref v0), (1, .int v1), (2, .int v2), (3, .int v3)], [], (n, c)) := by
  unfold bX11_ready_42 at hf
  refine mg_iinc (lv' := [(0, .ref v0), (1, .int v1), (2, .int v2), (3, .int (v3 + 1))]) C rfl (Nat.le_of_ble_eq_true rfl) rfl (show _ + Int32.ofInt 1 = _ + 1 by congr 1) rfl ?_
  refine mg_goto C rfl ?_
  exact hk13 _ _ _ _ _ hf
def bX11_ready_13 (N : Nat)  (k13 : Nat → Int32 → Int32 → Int32 → mm_C → mR Int32) (v0 : Nat) (v1 : Int32) (v2 : Int32) (v3 : Int32) (c : mm_C) : mR Int32 :=
  Option.bind (gR c v0 11 3) fun x1 => Option.bind (gI c x1 3 3) fun x2 => if x2 ≤ v3 then (bX11_ready_48 N  v2 c) else (Option.bind (gR c v0 11 10) fun x3 => cV 1 x3 c (fX1_hindrance N x3 v3 v1 c) fun r4 c5 => if ¬ r4 = 0 then (bX11_ready_42 N  k13 v0 v1 v2 v3 c5) else (bX11_ready_42 N  k13 v0 v1 (v2 ||| ((1 : Int32) <<< (v3 &&& 31))) v3 c5))
set_option maxRecDepth 100000 in
theorem wX11_ready_13 {Z : mm_Z} {X : mm_T} {k w mc ms d n N : Nat} {Q : mm_O → mm_H → Prop} (C : mm_Ok Z qX11_ready X) (hRm : mt_R X = mm_rm d mc ms) (hd : 8 ≤ d) (hn : n + 1 < 1000000) (hk : k + 1 ≤ mc) (hw : w + 6 ≤ ms) {k13 : Nat → Int32 → Int32 → Int32 → mm_C → mR Int32} (hk13 : ∀ (v0 : Nat) (v1 : Int32) (v2 : Int32) (v3 : Int32) (c : mm_C), hO 0 ovI n (k13 v0 v1 v2 v3 c) Q → mG Z qX11_ready X k w mc ms Q (13, [(0, .ref v0), (1, .int v1), (2, .int v2), (3, .int v3)], [], (n, c))) {v0 : Nat} {v1 : Int32} {v2 : Int32} {v3 : Int32} {c : mm_C} (hf : hO 0 ovI n (bX11_ready_13 N  k13 v0 v1 v2 v3 c) Q) : mG Z qX11_ready X k w mc ms Q (13, [(0, .ref v0), (1, .int v1), (2, .int v2), (3, .int v3)], [], (n, c)) := by
  unfold bX11_ready_13 at hf
  refine mg_iload_n C rfl rfl ?_
  refine mg_aload_n C rfl rfl ?_
  refine mh_gR C rfl rfl rfl (by decide) hf (fun x1 hf => ?_)
  refine mh_gI C rfl rfl rfl (by decide) hf (fun x2 hf => ?_)
  refine mh_icmp_ge C rfl hf (fun e_21 hf => ?_) (fun e_21 hf => ?_)
  · refine mg_sub (lv' := [(2, .int v2)]) (by simp) ?_
    exact wX11_ready_48 C hRm hd hn hk hw hf
  · refine mg_aload_n C rfl rfl ?_
    refine mh_gR C rfl rfl rfl (by decide) hf (fun x3 hf => ?_)
    refine mg_iload_n C rfl rfl ?_
    refine mg_iload_n C rfl rfl ?_
    refine mh_cVI (M' := qX1_hindrance) C rfl rfl aX1_hindrance iX1_hindrance sX1_hindrance hRm (by omega) (by decide) (by omega) (by omega) rfl rfl rfl (Nat.le_of_ble_eq_true rfl) rfl hf (fun hs => wX1_hindrance (by omega) (by omega) hs) (fun r4 c5 hf => ?_)
    refine mh_if_ne C rfl hf (fun e_33 hf => ?_) (fun e_33 hf => ?_)
    · exact wX11_ready_42 C hRm hd hn hk hw hk13 hf
    · refine mg_iload_n C rfl rfl ?_
      refine mg_iconst (v := 1) C rfl (by decide) ?_
      refine mg_iload_n C rfl rfl ?_
      refine mg_ishl C rfl ?_
      refine mg_ior C rfl ?_
      refine mg_istore_n (lv' := [(0, .ref v0), (1, .int v1), (2, .int (v2 ||| ((1 : Int32) <<< (v3 &&& 31)))), (3, .int v3)]) C rfl (Nat.le_of_ble_eq_true rfl) rfl ?_
      exact wX11_ready_42 C hRm hd hn hk hw hk13 hf
def lX11_ready_13 (N : Nat)  : Nat → Nat → Int32 → Int32 → Int32 → mm_C → mR Int32
  | 0, _, _, _, _, _ => none
  | m + 1, v0, v1, v2, v3, c => bX11_ready_13 N  (lX11_ready_13 N  m) v0 v1 v2 v3 c
theorem WX11_ready_13 {Z : mm_Z} {X : mm_T} {k w mc ms d n N : Nat} {Q : mm_O → mm_H → Prop} (C : mm_Ok Z qX11_ready X) (hRm : mt_R X = mm_rm d mc ms) (hd : 8 ≤ d) (hn : n + 1 < 1000000) (hk : k + 1 ≤ mc) (hw : w + 6 ≤ ms) : ∀ (m : Nat) {v0 : Nat} {v1 : Int32} {v2 : Int32} {v3 : Int32} {c : mm_C} (hf : hO 0 ovI n (lX11_ready_13 N  m v0 v1 v2 v3 c) Q), mG Z qX11_ready X k w mc ms Q (13, [(0, .ref v0), (1, .int v1), (2, .int v2), (3, .int v3)], [], (n, c)) := by
  intro m
  induction m with
  | zero => intro v0 v1 v2 v3 c hf; exact absurd hf hO_none
  | succ m ih => intro v0 v1 v2 v3 c hf; exact wX11_ready_13 C hRm hd hn hk hw (fun v0 v1 v2 v3 c hf => ih hf) hf
def bX11_ready_0 (N : Nat)  (v0 : Nat) (v1 : Int32) (c : mm_C) : mR Int32 :=
  cV 11 v0 c (fX11_requireMinute N v0 v1 c) fun (_ : Unit) c1 => cV 11 v0 c1 (fX11_lookAround N v0 c1) fun (_ : Unit) c2 => lX11_ready_13 N  N v0 v1 (0 : Int32) (0 : Int32) c2
set_option maxRecDepth 100000 in
theorem wX11_ready_0 {Z : mm_Z} {X : mm_T} {k w mc ms d n N : Nat} {Q : mm_O → mm_H → Prop} (C : mm_Ok Z qX11_ready X) (hRm : mt_R X = mm_rm d mc ms) (hd : 8 ≤ d) (hn : n + 1 < 1000000) (hk : k + 1 ≤ mc) (hw : w + 6 ≤ ms) {v0 : Nat} {v1 : Int32} {c : mm_C} (hf : hO 0 ovI n (bX11_ready_0 N  v0 v1 c) Q) : mG Z qX11_ready X k w mc ms Q (0, [(0, .ref v0), (1, .int v1)], [], (n, c)) := by
  unfold bX11_ready_0 at hf
  refine mg_aload_n C rfl rfl ?_
  refine mg_iload_n C rfl rfl ?_
  refine mh_cVU (M' := qX11_requireMinute) C rfl rfl aX11_requireMinute iX11_requireMinute sX11_requireMinute hRm (by omega) (by decide) (by omega) (by omega) rfl rfl rfl (Nat.le_of_ble_eq_true rfl) rfl hf (fun hs => wX11_requireMinute (by omega) (by omega) hs) (fun c1 hf => ?_)
  refine mg_aload_n C rfl rfl ?_
  refine mh_cVU (M' := qX11_lookAround) C rfl rfl aX11_lookAround iX11_lookAround sX11_lookAround hRm (by omega) (by decide) (by omega) (by omega) rfl rfl rfl (Nat.le_of_ble_eq_true rfl) rfl hf (fun hs => wX11_lookAround (by omega) (by omega) hs) (fun c2 hf => ?_)
  refine mg_iconst (v := 0) C rfl (by decide) ?_
  refine mg_istore_n (lv' := [(0, .ref v0), (1, .int v1), (2, .int (0 : Int32))]) C rfl (Nat.le_of_ble_eq_true rfl) rfl ?_
  refine mg_iconst (v := 0) C rfl (by decide) ?_
  refine mg_istore_n (lv' := [(0, .ref v0), (1, .int v1), (2, .int (0 : Int32)), (3, .int (0 : Int32))]) C rfl (Nat.le_of_ble_eq_true rfl) rfl ?_
  exact WX11_ready_13 C hRm hd hn hk hw N hf
def fX11_ready (N : Nat) (v0 : Nat) (v1 : Int32) (c : mm_C) : mR Int32 := bX11_ready_0 N v0 v1 c
set_option maxRecDepth 100000 in
theorem wX11_ready {Z : mm_Z} {d n N : Nat} (hd : 8 ≤ d) (hn : n + 1 < 1000000) {v0 : Nat} {v1 : Int32} {c : mm_C} (hs : (fX11_ready N v0 v1 c).isSome = true) : mC Z qX11_ready d 1 6 [.ref v0, .int v1] (n, c) (mP 0 ovI n (fX11_ready N v0 v1 c)) := by
  refine mC_of gX11_ready (by decide +kernel) (Nat.le_of_ble_eq_true rfl) fun X C hRm => ?_
  have hf := hO_mP 0 ovI n hs
  have hk : 0 + 1 ≤ 1 := Nat.le_of_ble_eq_true rfl
  have hw : 0 + 6 ≤ 6 := Nat.le_of_ble_eq_true rfl
  show mG _ _ _ _ _ _ _ _ (0, [(0, .ref v0), (1, .int v1)], [], (n, c))
  exact wX11_ready_0 C hRm hd hn hk hw hf
def bX11_edge_0 (N : Nat)  (v0 : Nat) (v1 : Int32) (c : mm_C) : mR Int32 :=
  cV 11 v0 c (fX11_requireMinute N v0 v1 c) fun (_ : Unit) c1 => cV 11 v0 c1 (fX11_lookAround N v0 c1) fun (_ : Unit) c2 => Option.bind (gR c2 v0 11 10) fun x3 => Option.bind (gR c2 x3 1 0) fun x4 => Option.bind (aI c2 x4 v1) fun x5 => Option.bind (gR c2 v0 11 3) fun x6 => Option.bind (gI c2 x6 3 0) fun x7 => if x7 ≤ (v1 + x5) then (some (.inl (-1 : Int32), c2)) else (some (.inl (v1 + x5), c2))
set_option maxRecDepth 100000 in
theorem wX11_edge_0 {Z : mm_Z} {X : mm_T} {k w mc ms d n N : Nat} {Q : mm_O → mm_H → Prop} (C : mm_Ok Z qX11_edge X) (hRm : mt_R X = mm_rm d mc ms) (hd : 8 ≤ d) (hn : n + 1 < 1000000) (hk : k + 1 ≤ mc) (hw : w + 6 ≤ ms) {v0 : Nat} {v1 : Int32} {c : mm_C} (hf : hO 0 ovI n (bX11_edge_0 N  v0 v1 c) Q) : mG Z qX11_edge X k w mc ms Q (0, [(0, .ref v0), (1, .int v1)], [], (n, c)) := by
  unfold bX11_edge_0 at hf
  refine mg_aload_n C rfl rfl ?_
  refine mg_iload_n C rfl rfl ?_
  refine mh_cVU (M' := qX11_requireMinute) C rfl rfl aX11_requireMinute iX11_requireMinute sX11_requireMinute hRm (by omega) (by decide) (by omega) (by omega) rfl rfl rfl (Nat.le_of_ble_eq_true rfl) rfl hf (fun hs => wX11_requireMinute (by omega) (by omega) hs) (fun c1 hf => ?_)
  refine mg_aload_n C rfl rfl ?_
  refine mh_cVU (M' := qX11_lookAround) C rfl rfl aX11_lookAround iX11_lookAround sX11_lookAround hRm (by omega) (by decide) (by omega) (by omega) rfl rfl rfl (Nat.le_of_ble_eq_true rfl) rfl hf (fun hs => wX11_lookAround (by omega) (by omega) hs) (fun c2 hf => ?_)
  refine mg_iload_n C rfl rfl ?_
  refine mg_aload_n C rfl rfl ?_
  refine mh_gR C rfl rfl rfl (by decide) hf (fun x3 hf => ?_)
  refine mh_gR C rfl rfl rfl (by decide) hf (fun x4 hf => ?_)
  refine mg_iload_n C rfl rfl ?_
  refine mh_aI C rfl hf (fun x5 hf => ?_)
  refine mg_iadd C rfl ?_
  refine mg_istore_n (lv' := [(0, .ref v0), (1, .int v1), (2, .int (v1 + x5))]) C rfl (Nat.le_of_ble_eq_true rfl) rfl ?_
  refine mg_iload_n C rfl rfl ?_
  refine mg_aload_n C rfl rfl ?_
  refine mh_gR C rfl rfl rfl (by decide) hf (fun x6 hf => ?_)
  refine mh_gI C rfl rfl rfl (by decide) hf (fun x7 hf => ?_)
  refine mh_icmp_ge C rfl hf (fun e_29 hf => ?_) (fun e_29 hf => ?_)
  · refine mg_iconst (v := (-1)) C rfl (by decide) ?_
    exact mh_ireturn C rfl (by omega) (by omega) rfl hf
  · refine mg_iload_n C rfl rfl ?_
    refine mg_goto C rfl ?_
    exact mh_ireturn C rfl (by omega) (by omega) rfl hf
def fX11_edge (N : Nat) (v0 : Nat) (v1 : Int32) (c : mm_C) : mR Int32 := bX11_edge_0 N v0 v1 c
set_option maxRecDepth 100000 in
theorem wX11_edge {Z : mm_Z} {d n N : Nat} (hd : 8 ≤ d) (hn : n + 1 < 1000000) {v0 : Nat} {v1 : Int32} {c : mm_C} (hs : (fX11_edge N v0 v1 c).isSome = true) : mC Z qX11_edge d 1 6 [.ref v0, .int v1] (n, c) (mP 0 ovI n (fX11_edge N v0 v1 c)) := by
  refine mC_of gX11_edge (by decide +kernel) (Nat.le_of_ble_eq_true rfl) fun X C hRm => ?_
  have hf := hO_mP 0 ovI n hs
  have hk : 0 + 1 ≤ 1 := Nat.le_of_ble_eq_true rfl
  have hw : 0 + 6 ≤ 6 := Nat.le_of_ble_eq_true rfl
  show mG _ _ _ _ _ _ _ _ (0, [(0, .ref v0), (1, .int v1)], [], (n, c))
  exact wX11_edge_0 C hRm hd hn hk hw hf
def bX11_refuseAct_0 (N : Nat)  (v0 : Nat) (c : mm_C) : mR Int32 :=
  Option.bind (gR c v0 11 6) fun x1 => Option.bind (gR c x1 5 7) fun x2 => Option.bind (aI c x2 (1 : Int32)) fun x3 => Option.bind (tI c x2 (1 : Int32) (x3 + (1 : Int32))) fun c4 => some (.inl (-1 : Int32), c4)
set_option maxRecDepth 100000 in
theorem wX11_refuseAct_0 {Z : mm_Z} {X : mm_T} {k w mc ms d n N : Nat} {Q : mm_O → mm_H → Prop} (C : mm_Ok Z qX11_refuseAct X) (hRm : mt_R X = mm_rm d mc ms) (hd : 1 ≤ d) (hn : n + 1 < 1000000) (hk : k + 1 ≤ mc) (hw : w + 6 ≤ ms) {v0 : Nat} {c : mm_C} (hf : hO 0 ovI n (bX11_refuseAct_0 N  v0 c) Q) : mG Z qX11_refuseAct X k w mc ms Q (0, [(0, .ref v0)], [], (n, c)) := by
  unfold bX11_refuseAct_0 at hf
  refine mg_aload_n C rfl rfl ?_
  refine mh_gR C rfl rfl rfl (by decide) hf (fun x1 hf => ?_)
  refine mh_gR C rfl rfl rfl (by decide) hf (fun x2 hf => ?_)
  refine mg_iconst (v := 1) C rfl (by decide) ?_
  refine mg_dup2 C rfl rfl rfl ?_
  refine mh_aI C rfl hf (fun x3 hf => ?_)
  refine mg_iconst (v := 1) C rfl (by decide) ?_
  refine mg_iadd C rfl ?_
  refine mh_tI C rfl hf (fun c4 hf => ?_)
  refine mg_iconst (v := (-1)) C rfl (by decide) ?_
  exact mh_ireturn C rfl (by omega) (by omega) rfl hf
def fX11_refuseAct (N : Nat) (v0 : Nat) (c : mm_C) : mR Int32 := bX11_refuseAct_0 N v0 c
set_option maxRecDepth 100000 in
theorem wX11_refuseAct {Z : mm_Z} {d n N : Nat} (hd : 1 ≤ d) (hn : n + 1 < 1000000) {v0 : Nat} {c : mm_C} (hs : (fX11_refuseAct N v0 c).isSome = true) : mC Z qX11_refuseAct d 1 6 [.ref v0] (n, c) (mP 0 ovI n (fX11_refuseAct N v0 c)) := by
  refine mC_of gX11_refuseAct (by decide +kernel) (Nat.le_of_ble_eq_true rfl) fun X C hRm => ?_
  have hf := hO_mP 0 ovI n hs
  have hk : 0 + 1 ≤ 1 := Nat.le_of_ble_eq_true rfl
  have hw : 0 + 6 ≤ 6 := Nat.le_of_ble_eq_true rfl
  show mG _ _ _ _ _ _ _ _ (0, [(0, .ref v0)], [], (n, c))
  exact wX11_refuseAct_0 C hRm hd hn hk hw hf
def bX11_take_46 (N : Nat)  (v0 : Nat) (c : mm_C) : mR Int32 :=
  cV 11 v0 c (fX11_refuseAct N v0 c) fun r1 c2 => some (.inl r1, c2)
set_option maxRecDepth 100000 in
theorem wX11_take_46 {Z : mm_Z} {X : mm_T} {k w mc ms d n N : Nat} {Q : mm_O → mm_H → Prop} (C : mm_Ok Z qX11_take X) (hRm : mt_R X = mm_rm d mc ms) (hd : 8 ≤ d) (hn : n + 1 < 1000000) (hk : k + 1 ≤ mc) (hw : w + 6 ≤ ms) {v0 : Nat} {c : mm_C} (hf : hO 0 ovI n (bX11_take_46 N  v0 c) Q) : mG Z qX11_take X k w mc ms Q (46, [(0, .ref v0)], [], (n, c)) := by
  unfold bX11_take_46 at hf
  refine mg_aload_n C rfl rfl ?_
  refine mh_cVI (M' := qX11_refuseAct) C rfl rfl aX11_refuseAct iX11_refuseAct sX11_refuseAct hRm (by omega) (by decide) (by omega) (by omega) rfl rfl rfl (Nat.le_of_ble_eq_true rfl) rfl hf (fun hs => wX11_refuseAct (by omega) (by omega) hs) (fun r1 c2 hf => ?_)
  exact mh_ireturn C rfl (by omega) (by omega) rfl hf
def bX11_take_0 (N : Nat)  (v0 : Nat) (v1 : Int32) (c : mm_C) : mR Int32 :=
  cV 11 v0 c (fX11_requireShot N v0 v1 c) fun (_ : Unit) c1 => Option.bind (gR c1 v0 11 6) fun x2 => Option.bind (gR c1 x2 5 0) fun x3 => cV 11 v0 c1 (fX11_lookAround N v0 c1) fun (_ : Unit) c4 => Option.bind (gI c4 x3 9 0) fun x5 => Option.bind (gR c4 v0 11 3) fun x6 => Option.bind (gI c4 x6 3 0) fun x7 => if x7 ≤ x5 then (bX11_take_46 N  v0 c4) else (Option.bind (gR c4 v0 11 10) fun x8 => Option.bind (gI c4 x3 9 0) fun x9 => cV 1 x8 c4 (fX1_hindrance N x8 v1 x9 c4) fun r10 c11 => if r10 = 0 then (Option.bind (gR c11 v0 11 6) fun x12 => cV 5 x12 c11 (fX5_keepAct N x12 c11) fun (_ : Unit) c13 => Option.bind (gR c13 v0 11 10) fun x14 => cV 1 x14 c13 (fX1_shoots N x14 v1 c13) fun r15 c16 => if r15 = 0 then (some (.inl (0 : Int32), c16)) else (some (.inl (1 : Int32), c16))) else (bX11_take_46 N  v0 c11))
set_option maxRecDepth 100000 in
theorem wX11_take_0 {Z : mm_Z} {X : mm_T} {k w mc ms d n N : Nat} {Q : mm_O → mm_H → Prop} (C : mm_Ok Z qX11_take X) (hRm : mt_R X = mm_rm d mc ms) (hd : 8 ≤ d) (hn : n + 1 < 1000000) (hk : k + 1 ≤ mc) (hw : w + 6 ≤ ms) {v0 : Nat} {v1 : Int32} {c : mm_C} (hf : hO 0 ovI n (bX11_take_0 N  v0 v1 c) Q) : mG Z qX11_take X k w mc ms Q (0, [(0, .ref v0), (1, .int v1)], [], (n, c)) := by
  unfold bX11_take_0 at hf
  refine mg_aload_n C rfl rfl ?_
  refine mg_iload_n C rfl rfl ?_
  refine mh_cVU (M' := qX11_requireShot) C rfl rfl aX11_requireShot iX11_requireShot sX11_requireShot hRm (by omega) (by decide) (by omega) (by omega) rfl rfl rfl (Nat.le_of_ble_eq_true rfl) rfl hf (fun hs => wX11_requireShot (by omega) (by omega) hs) (fun c1 hf => ?_)
  refine mg_aload_n C rfl rfl ?_
  refine mh_gR C rfl rfl rfl (by decide) hf (fun x2 hf => ?_)
  refine mh_gR C rfl rfl rfl (by decide) hf (fun x3 hf => ?_)
  refine mg_astore_n (lv' := [(0, .ref v0), (1, .int v1), (2, .ref x3)]) C rfl (Nat.le_of_ble_eq_true rfl) rfl ?_
  refine mg_aload_n C rfl rfl ?_
  refine mh_cVU (M' := qX11_lookAround) C rfl rfl aX11_lookAround iX11_lookAround sX11_lookAround hRm (by omega) (by decide) (by omega) (by omega) rfl rfl rfl (Nat.le_of_ble_eq_true rfl) rfl hf (fun hs => wX11_lookAround (by omega) (by omega) hs) (fun c4 hf => ?_)
  refine mg_aload_n C rfl rfl ?_
  refine mh_gI C rfl rfl rfl (by decide) hf (fun x5 hf => ?_)
  refine mg_aload_n C rfl rfl ?_
  refine mh_gR C rfl rfl rfl (by decide) hf (fun x6 hf => ?_)
  refine mh_gI C rfl rfl rfl (by decide) hf (fun x7 hf => ?_)
  refine mh_icmp_ge C rfl hf (fun e_28 hf => ?_) (fun e_28 hf => ?_)
  · refine mg_sub (lv' := [(0, .ref v0)]) (by simp) ?_
    exact wX11_take_46 C hRm hd hn hk hw hf
  · refine mg_aload_n C rfl rfl ?_
    refine mh_gR C rfl rfl rfl (by decide) hf (fun x8 hf => ?_)
    refine mg_iload_n C rfl rfl ?_
    refine mg_aload_n C rfl rfl ?_
    refine mh_gI C rfl rfl rfl (by decide) hf (fun x9 hf => ?_)
    refine mh_cVI (M' := qX1_hindrance) C rfl rfl aX1_hindrance iX1_hindrance sX1_hindrance hRm (by omega) (by decide) (by omega) (by omega) rfl rfl rfl (Nat.le_of_ble_eq_true rfl) rfl hf (fun hs => wX1_hindrance (by omega) (by omega) hs) (fun r10 c11 hf => ?_)
    refine mh_if_eq C rfl hf (fun e_43 hf => ?_) (fun e_43 hf => ?_)
    · refine mg_aload_n C rfl rfl ?_
      refine mh_gR C rfl rfl rfl (by decide) hf (fun x12 hf => ?_)
      refine mh_cVU (M' := qX5_keepAct) C rfl rfl aX5_keepAct iX5_keepAct sX5_keepAct hRm (by omega) (by decide) (by omega) (by omega) rfl rfl rfl (Nat.le_of_ble_eq_true rfl) rfl hf (fun hs => wX5_keepAct (by omega) (by omega) hs) (fun c13 hf => ?_)
      refine mg_aload_n C rfl rfl ?_
      refine mh_gR C rfl rfl rfl (by decide) hf (fun x14 hf => ?_)
      refine mg_iload_n C rfl rfl ?_
      refine mh_cVI (M' := qX1_shoots) C rfl rfl aX1_shoots iX1_shoots sX1_shoots hRm (by omega) (by decide) (by omega) (by omega) rfl rfl rfl (Nat.le_of_ble_eq_true rfl) rfl hf (fun hs => wX1_shoots (by omega) (by omega) hs) (fun r15 c16 hf => ?_)
      refine mh_if_eq C rfl hf (fun e_66 hf => ?_) (fun e_66 hf => ?_)
      · refine mg_iconst (v := 0) C rfl (by decide) ?_
        exact mh_ireturn C rfl (by omega) (by omega) rfl hf
      · refine mg_iconst (v := 1) C rfl (by decide) ?_
        refine mg_goto C rfl ?_
        exact mh_ireturn C rfl (by omega) (by omega) rfl hf
    · refine mg_sub (lv' := [(0, .ref v0)]) (by simp) ?_
      exact wX11_take_46 C hRm hd hn hk hw hf
def fX11_take (N : Nat) (v0 : Nat) (v1 : Int32) (c : mm_C) : mR Int32 := bX11_take_0 N v0 v1 c
set_option maxRecDepth 100000 in
theorem wX11_take {Z : mm_Z} {d n N : Nat} (hd : 8 ≤ d) (hn : n + 1 < 1000000) {v0 : Nat} {v1 : Int32} {c : mm_C} (hs : (fX11_take N v0 v1 c).isSome = true) : mC Z qX11_take d 1 6 [.ref v0, .int v1] (n, c) (mP 0 ovI n (fX11_take N v0 v1 c)) := by
  refine mC_of gX11_take (by decide +kernel) (Nat.le_of_ble_eq_true rfl) fun X C hRm => ?_
  have hf := hO_mP 0 ovI n hs
  have hk : 0 + 1 ≤ 1 := Nat.le_of_ble_eq_true rfl
  have hw : 0 + 6 ≤ 6 := Nat.le_of_ble_eq_true rfl
  show mG _ _ _ _ _ _ _ _ (0, [(0, .ref v0), (1, .int v1)], [], (n, c))
  exact wX11_take_0 C hRm hd hn hk hw hf
def bX11_await_35 (N : Nat)  (v0 : Nat) (c : mm_C) : mR Int32 :=
  cV 11 v0 c (fX11_refuseAct N v0 c) fun r1 c2 => some (.inl r1, c2)
set_option maxRecDepth 100000 in
theorem wX11_await_35 {Z : mm_Z} {X : mm_T} {k w mc ms d n N : Nat} {Q : mm_O → mm_H → Prop} (C : mm_Ok Z qX11_await X) (hRm : mt_R X = mm_rm d mc ms) (hd : 4 ≤ d) (hn : n + 1 < 1000000) (hk : k + 1 ≤ mc) (hw : w + 6 ≤ ms) {v0 : Nat} {c : mm_C} (hf : hO 0 ovI n (bX11_await_35 N  v0 c) Q) : mG Z qX11_await X k w mc ms Q (35, [(0, .ref v0)], [], (n, c)) := by
  unfold bX11_await_35 at hf
  refine mg_aload_n C rfl rfl ?_
  refine mh_cVI (M' := qX11_refuseAct) C rfl rfl aX11_refuseAct iX11_refuseAct sX11_refuseAct hRm (by omega) (by decide) (by omega) (by omega) rfl rfl rfl (Nat.le_of_ble_eq_true rfl) rfl hf (fun hs => wX11_refuseAct (by omega) (by omega) hs) (fun r1 c2 hf => ?_)
  exact mh_ireturn C rfl (by omega) (by omega) rfl hf
def bX11_await_0 (N : Nat)  (v0 : Nat) (v1 : Int32) (c : mm_C) : mR Int32 :=
  Option.bind (gR c v0 11 6) fun x1 => Option.bind (gR c x1 5 0) fun x2 => if v1 < (1 : Int32) then (bX11_await_35 N  v0 c) else (if (60 : Int32) < v1 then (bX11_await_35 N  v0 c) else (Option.bind (gI c x2 9 0) fun x3 => Option.bind (gR c v0 11 3) fun x4 => Option.bind (gI c x4 3 0) fun x5 => if (x3 + v1) ≤ x5 then (Option.bind (gR c v0 11 6) fun x6 => cV 5 x6 c (fX5_keepAct N x6 c) fun (_ : Unit) c7 => cV 9 x2 c7 (fX9_waits N x2 v1 c7) fun (_ : Unit) c8 => Option.bind (gI c8 x2 9 0) fun x9 => some (.inl x9, c8)) else (bX11_await_35 N  v0 c)))
set_option maxRecDepth 100000 in
theorem wX11_await_0 {Z : mm_Z} {X : mm_T} {k w mc ms d n N : Nat} {Q : mm_O → mm_H → Prop} (C : mm_Ok Z qX11_await X) (hRm : mt_R X = mm_rm d mc ms) (hd : 4 ≤ d) (hn : n + 1 < 1000000) (hk : k + 1 ≤ mc) (hw : w + 6 ≤ ms) {v0 : Nat} {v1 : Int32} {c : mm_C} (hf : hO 0 ovI n (bX11_await_0 N  v0 v1 c) Q) : mG Z qX11_await X k w mc ms Q (0, [(0, .ref v0), (1, .int v1)], [], (n, c)) := by
  unfold bX11_await_0 at hf
  refine mg_aload_n C rfl rfl ?_
  refine mh_gR C rfl rfl rfl (by decide) hf (fun x1 hf => ?_)
  refine mh_gR C rfl rfl rfl (by decide) hf (fun x2 hf => ?_)
  refine mg_astore_n (lv' := [(0, .ref v0), (1, .int v1), (2, .ref x2)]) C rfl (Nat.le_of_ble_eq_true rfl) rfl ?_
  refine mg_iload_n C rfl rfl ?_
  refine mg_iconst (v := 1) C rfl (by decide) ?_
  refine mh_icmp_lt C rfl hf (fun e_10 hf => ?_) (fun e_10 hf => ?_)
  · refine mg_sub (lv' := [(0, .ref v0)]) (by simp) ?_
    exact wX11_await_35 C hRm hd hn hk hw hf
  · refine mg_iload_n C rfl rfl ?_
    refine mg_bipush (v := 60) C rfl (by decide) ?_
    refine mh_icmp_gt C rfl hf (fun e_16 hf => ?_) (fun e_16 hf => ?_)
    · refine mg_sub (lv' := [(0, .ref v0)]) (by simp) ?_
      exact wX11_await_35 C hRm hd hn hk hw hf
    · refine mg_aload_n C rfl rfl ?_
      refine mh_gI C rfl rfl rfl (by decide) hf (fun x3 hf => ?_)
      refine mg_iload_n C rfl rfl ?_
      refine mg_iadd C rfl ?_
      refine mg_aload_n C rfl rfl ?_
      refine mh_gR C rfl rfl rfl (by decide) hf (fun x4 hf => ?_)
      refine mh_gI C rfl rfl rfl (by decide) hf (fun x5 hf => ?_)
      refine mh_icmp_le C rfl hf (fun e_32 hf => ?_) (fun e_32 hf => ?_)
      · refine mg_aload_n C rfl rfl ?_
        refine mh_gR C rfl rfl rfl (by decide) hf (fun x6 hf => ?_)
        refine mh_cVU (M' := qX5_keepAct) C rfl rfl aX5_keepAct iX5_keepAct sX5_keepAct hRm (by omega) (by decide) (by omega) (by omega) rfl rfl rfl (Nat.le_of_ble_eq_true rfl) rfl hf (fun hs => wX5_keepAct (by omega) (by omega) hs) (fun c7 hf => ?_)
        refine mg_aload_n C rfl rfl ?_
        refine mg_iload_n C rfl rfl ?_
        refine mh_cVU (M' := qX9_waits) C rfl rfl aX9_waits iX9_waits sX9_waits hRm (by omega) (by decide) (by omega) (by omega) rfl rfl rfl (Nat.le_of_ble_eq_true rfl) rfl hf (fun hs => wX9_waits (by omega) (by omega) hs) (fun c8 hf => ?_)
        refine mg_aload_n C rfl rfl ?_
        refine mh_gI C rfl rfl rfl (by decide) hf (fun x9 hf => ?_)
        exact mh_ireturn C rfl (by omega) (by omega) rfl hf
      · refine mg_sub (lv' := [(0, .ref v0)]) (by simp) ?_
        exact wX11_await_35 C hRm hd hn hk hw hf
def fX11_await (N : Nat) (v0 : Nat) (v1 : Int32) (c : mm_C) : mR Int32 := bX11_await_0 N v0 v1 c
set_option maxRecDepth 100000 in
theorem wX11_await {Z : mm_Z} {d n N : Nat} (hd : 4 ≤ d) (hn : n + 1 < 1000000) {v0 : Nat} {v1 : Int32} {c : mm_C} (hs : (fX11_await N v0 v1 c).isSome = true) : mC Z qX11_await d 1 6 [.ref v0, .int v1] (n, c) (mP 0 ovI n (fX11_await N v0 v1 c)) := by
  refine mC_of gX11_await (by decide +kernel) (Nat.le_of_ble_eq_true rfl) fun X C hRm => ?_
  have hf := hO_mP 0 ovI n hs
  have hk : 0 + 1 ≤ 1 := Nat.le_of_ble_eq_true rfl
  have hw : 0 + 6 ≤ 6 := Nat.le_of_ble_eq_true rfl
  show mG _ _ _ _ _ _ _ _ (0, [(0, .ref v0), (1, .int v1)], [], (n, c))
  exact wX11_await_0 C hRm hd hn hk hw hf
def bX11_move_48 (N : Nat)  (v0 : Nat) (c : mm_C) : mR Int32 :=
  cV 11 v0 c (fX11_refuseAct N v0 c) fun r1 c2 => some (.inl r1, c2)
set_option maxRecDepth 100000 in
theorem wX11_move_48 {Z : mm_Z} {X : mm_T} {k w mc ms d n N : Nat} {Q : mm_O → mm_H → Prop} (C : mm_Ok Z qX11_move X) (hRm : mt_R X = mm_rm d mc ms) (hd : 4 ≤ d) (hn : n + 1 < 1000000) (hk : k + 1 ≤ mc) (hw : w + 6 ≤ ms) {v0 : Nat} {c : mm_C} (hf : hO 0 ovI n (bX11_move_48 N  v0 c) Q) : mG Z qX11_move X k w mc ms Q (48, [(0, .ref v0)], [], (n, c)) := by
  unfold bX11_move_48 at hf
  refine mg_aload_n C rfl rfl ?_
  refine mh_cVI (M' := qX11_refuseAct) C rfl rfl aX11_refuseAct iX11_refuseAct sX11_refuseAct hRm (by omega) (by decide) (by omega) (by omega) rfl rfl rfl (Nat.le_of_ble_eq_true rfl) rfl hf (fun hs => wX11_refuseAct (by omega) (by omega) hs) (fun r1 c2 hf => ?_)
  exact mh_ireturn C rfl (by omega) (by omega) rfl hf
def bX11_move_17 (N : Nat)  (v0 : Nat) (v2 : Nat) (s0 : Int32) (c : mm_C) : mR Int32 :=
  Option.bind (gI c v2 9 1) fun x1 => if x1 = s0 then (bX11_move_48 N  v0 c) else (Option.bind (gI c v2 9 0) fun x2 => Option.bind (gR c v0 11 3) fun x3 => Option.bind (gI c x3 3 1) fun x4 => Option.bind (gR c v0 11 3) fun x5 => Option.bind (gI c x5 3 0) fun x6 => if (x2 + x4) ≤ x6 then (Option.bind (gR c v0 11 6) fun x7 => cV 5 x7 c (fX5_keepAct N x7 c) fun (_ : Unit) c8 => Option.bind (gR c8 v0 11 3) fun x9 => Option.bind (gI c8 x9 3 1) fun x10 => cV 9 v2 c8 (fX9_goesOver N v2 x10 c8) fun (_ : Unit) c11 => Option.bind (gI c11 v2 9 0) fun x12 => some (.inl x12, c11)) else (bX11_move_48 N  v0 c))
set_option maxRecDepth 100000 in
theorem wX11_move_17 {Z : mm_Z} {X : mm_T} {k w mc ms d n N : Nat} {Q : mm_O → mm_H → Prop} (C : mm_Ok Z qX11_move X) (hRm : mt_R X = mm_rm d mc ms) (hd : 4 ≤ d) (hn : n + 1 < 1000000) (hk : k + 1 ≤ mc) (hw : w + 6 ≤ ms) {v0 : Nat} {v2 : Nat} {s0 : Int32} {c : mm_C} (hf : hO 0 ovI n (bX11_move_17 N  v0 v2 s0 c) Q) : mG Z qX11_move X k w mc ms Q (17, [(0, .ref v0), (2, .ref v2)], [.int s0], (n, c)) := by
  unfold bX11_move_17 at hf
  refine mg_istore_n (lv' := [(0, .ref v0), (2, .ref v2), (3, .int s0)]) C rfl (Nat.le_of_ble_eq_true rfl) rfl ?_
  refine mg_aload_n C rfl rfl ?_
  refine mh_gI C rfl rfl rfl (by decide) hf (fun x1 hf => ?_)
  refine mg_iload_n C rfl rfl ?_
  refine mh_icmp_eq C rfl hf (fun e_23 hf => ?_) (fun e_23 hf => ?_)
  · refine mg_sub (lv' := [(0, .ref v0)]) (by simp) ?_
    exact wX11_move_48 C hRm hd hn hk hw hf
  · refine mg_aload_n C rfl rfl ?_
    refine mh_gI C rfl rfl rfl (by decide) hf (fun x2 hf => ?_)
    refine mg_aload_n C rfl rfl ?_
    refine mh_gR C rfl rfl rfl (by decide) hf (fun x3 hf => ?_)
    refine mh_gI C rfl rfl rfl (by decide) hf (fun x4 hf => ?_)
    refine mg_iadd C rfl ?_
    refine mg_aload_n C rfl rfl ?_
    refine mh_gR C rfl rfl rfl (by decide) hf (fun x5 hf => ?_)
    refine mh_gI C rfl rfl rfl (by decide) hf (fun x6 hf => ?_)
    refine mh_icmp_le C rfl hf (fun e_45 hf => ?_) (fun e_45 hf => ?_)
    · refine mg_aload_n C rfl rfl ?_
      refine mh_gR C rfl rfl rfl (by decide) hf (fun x7 hf => ?_)
      refine mh_cVU (M' := qX5_keepAct) C rfl rfl aX5_keepAct iX5_keepAct sX5_keepAct hRm (by omega) (by decide) (by omega) (by omega) rfl rfl rfl (Nat.le_of_ble_eq_true rfl) rfl hf (fun hs => wX5_keepAct (by omega) (by omega) hs) (fun c8 hf => ?_)
      refine mg_aload_n C rfl rfl ?_
      refine mg_aload_n C rfl rfl ?_
      refine mh_gR C rfl rfl rfl (by decide) hf (fun x9 hf => ?_)
      refine mh_gI C rfl rfl rfl (by decide) hf (fun x10 hf => ?_)
      refine mh_cVU (M' := qX9_goesOver) C rfl rfl aX9_goesOver iX9_goesOver sX9_goesOver hRm (by omega) (by decide) (by omega) (by omega) rfl rfl rfl (Nat.le_of_ble_eq_true rfl) rfl hf (fun hs => wX9_goesOver (by omega) (by omega) hs) (fun c11 hf => ?_)
      refine mg_aload_n C rfl rfl ?_
      refine mh_gI C rfl rfl rfl (by decide) hf (fun x12 hf => ?_)
      exact mh_ireturn C rfl (by omega) (by omega) rfl hf
    · refine mg_sub (lv' := [(0, .ref v0)]) (by simp) ?_
      exact wX11_move_48 C hRm hd hn hk hw hf
def bX11_move_0 (N : Nat)  (v0 : Nat) (v1 : Int32) (c : mm_C) : mR Int32 :=
  Option.bind (gR c v0 11 6) fun x1 => Option.bind (gR c x1 5 0) fun x2 => if v1 = 0 then (bX11_move_17 N  v0 x2 (0 : Int32) c) else (bX11_move_17 N  v0 x2 (1 : Int32) c)
set_option maxRecDepth 100000 in
theorem wX11_move_0 {Z : mm_Z} {X : mm_T} {k w mc ms d n N : Nat} {Q : mm_O → mm_H → Prop} (C : mm_Ok Z qX11_move X) (hRm : mt_R X = mm_rm d mc ms) (hd : 4 ≤ d) (hn : n + 1 < 1000000) (hk : k + 1 ≤ mc) (hw : w + 6 ≤ ms) {v0 : Nat} {v1 : Int32} {c : mm_C} (hf : hO 0 ovI n (bX11_move_0 N  v0 v1 c) Q) : mG Z qX11_move X k w mc ms Q (0, [(0, .ref v0), (1, .int v1)], [], (n, c)) := by
  unfold bX11_move_0 at hf
  refine mg_aload_n C rfl rfl ?_
  refine mh_gR C rfl rfl rfl (by decide) hf (fun x1 hf => ?_)
  refine mh_gR C rfl rfl rfl (by decide) hf (fun x2 hf => ?_)
  refine mg_astore_n (lv' := [(0, .ref v0), (1, .int v1), (2, .ref x2)]) C rfl (Nat.le_of_ble_eq_true rfl) rfl ?_
  refine mg_iload_n C rfl rfl ?_
  refine mh_if_eq C rfl hf (fun e_9 hf => ?_) (fun e_9 hf => ?_)
  · refine mg_iconst (v := 0) C rfl (by decide) ?_
    refine mg_sub (lv' := [(0, .ref v0), (2, .ref x2)]) (by simp) ?_
    exact wX11_move_17 C hRm hd hn hk hw hf
  · refine mg_iconst (v := 1) C rfl (by decide) ?_
    refine mg_goto C rfl ?_
    refine mg_sub (lv' := [(0, .ref v0), (2, .ref x2)]) (by simp) ?_
    exact wX11_move_17 C hRm hd hn hk hw hf
def fX11_move (N : Nat) (v0 : Nat) (v1 : Int32) (c : mm_C) : mR Int32 := bX11_move_0 N v0 v1 c
set_option maxRecDepth 100000 in
theorem wX11_move {Z : mm_Z} {d n N : Nat} (hd : 4 ≤ d) (hn : n + 1 < 1000000) {v0 : Nat} {v1 : Int32} {c : mm_C} (hs : (fX11_move N v0 v1 c).isSome = true) : mC Z qX11_move d 1 6 [.ref v0, .int v1] (n, c) (mP 0 ovI n (fX11_move N v0 v1 c)) := by
  refine mC_of gX11_move (by decide +kernel) (Nat.le_of_ble_eq_true rfl) fun X C hRm => ?_
  have hf := hO_mP 0 ovI n hs
  have hk : 0 + 1 ≤ 1 := Nat.le_of_ble_eq_true rfl
  have hw : 0 + 6 ≤ 6 := Nat.le_of_ble_eq_true rfl
  show mG _ _ _ _ _ _ _ _ (0, [(0, .ref v0), (1, .int v1)], [], (n, c))
  exact wX11_move_0 C hRm hd hn hk hw hf
def bX11_sets_28 (N : Nat)  (v0 : Nat) (v1 : Int32) (v2 : Int32) (v3 : Nat) (s0 : Int32) (c : mm_C) : mR Int32 :=
  Option.bind (gR c v0 11 6) fun x1 => cV 5 x1 c (fX5_keepAct N x1 c) fun (_ : Unit) c2 => cV 9 v3 c2 (fX9_putOn N v3 v1 v2 c2) fun (_ : Unit) c3 => rZ s0 c3
set_option maxRecDepth 100000 in
theorem wX11_sets_28 {Z : mm_Z} {X : mm_T} {k w mc ms d n N : Nat} {Q : mm_O → mm_H → Prop} (C : mm_Ok Z qX11_sets X) (hRm : mt_R X = mm_rm d mc ms) (hd : 8 ≤ d) (hn : n + 1 < 1000000) (hk : k + 1 ≤ mc) (hw : w + 6 ≤ ms) {v0 : Nat} {v1 : Int32} {v2 : Int32} {v3 : Nat} {s0 : Int32} {c : mm_C} (hf : hO 0 ovI n (bX11_sets_28 N  v0 v1 v2 v3 s0 c) Q) : mG Z qX11_sets X k w mc ms Q (28, [(0, .ref v0), (1, .int v1), (2, .int v2), (3, .ref v3)], [.int s0], (n, c)) := by
  unfold bX11_sets_28 at hf
  refine mg_istore (lv' := [(0, .ref v0), (1, .int v1), (2, .int v2), (3, .ref v3), (4, .int s0)]) C rfl (Nat.le_of_ble_eq_true rfl) rfl ?_
  refine mg_aload_n C rfl rfl ?_
  refine mh_gR C rfl rfl rfl (by decide) hf (fun x1 hf => ?_)
  refine mh_cVU (M' := qX5_keepAct) C rfl rfl aX5_keepAct iX5_keepAct sX5_keepAct hRm (by omega) (by decide) (by omega) (by omega) rfl rfl rfl (Nat.le_of_ble_eq_true rfl) rfl hf (fun hs => wX5_keepAct (by omega) (by omega) hs) (fun c2 hf => ?_)
  refine mg_aload_n C rfl rfl ?_
  refine mg_iload_n C rfl rfl ?_
  refine mg_iload_n C rfl rfl ?_
  refine mh_cVU (M' := qX9_putOn) C rfl rfl aX9_putOn iX9_putOn sX9_putOn hRm (by omega) (by decide) (by omega) (by omega) rfl rfl rfl (Nat.le_of_ble_eq_true rfl) rfl hf (fun hs => wX9_putOn (by omega) (by omega) hs) (fun c3 hf => ?_)
  refine mg_iload C rfl rfl ?_
  exact mh_zreturn C rfl (by omega) (by omega) rfl hf
def bX11_sets_0 (N : Nat)  (v0 : Nat) (v1 : Int32) (v2 : Int32) (c : mm_C) : mR Int32 :=
  cS (fX11_requireWhat N v1 (1 : Int32) c) fun (_ : Unit) c1 => Option.bind (gR c1 v0 11 6) fun x2 => Option.bind (gR c1 x2 5 0) fun x3 => if ¬ v1 = 0 then (Option.bind (gI c1 x3 9 6) fun x4 => bX11_sets_28 N  v0 v1 v2 x3 x4 c1) else (Option.bind (gI c1 x3 9 5) fun x5 => bX11_sets_28 N  v0 v1 v2 x3 x5 c1)
set_option maxRecDepth 100000 in
theorem wX11_sets_0 {Z : mm_Z} {X : mm_T} {k w mc ms d n N : Nat} {Q : mm_O → mm_H → Prop} (C : mm_Ok Z qX11_sets X) (hRm : mt_R X = mm_rm d mc ms) (hd : 8 ≤ d) (hn : n + 1 < 1000000) (hk : k + 1 ≤ mc) (hw : w + 6 ≤ ms) {v0 : Nat} {v1 : Int32} {v2 : Int32} {c : mm_C} (hf : hO 0 ovI n (bX11_sets_0 N  v0 v1 v2 c) Q) : mG Z qX11_sets X k w mc ms Q (0, [(0, .ref v0), (1, .int v1), (2, .int v2)], [], (n, c)) := by
  unfold bX11_sets_0 at hf
  refine mg_iload_n C rfl rfl ?_
  refine mg_iconst (v := 1) C rfl (by decide) ?_
  refine mh_cSU (M' := qX11_requireWhat) C rfl rfl aX11_requireWhat tX11_requireWhat hRm (by omega) (by decide) (by omega) (by omega) rfl rfl (Nat.le_of_ble_eq_true rfl) rfl hf (fun hs => wX11_requireWhat (by omega) (by omega) hs) (fun c1 hf => ?_)
  refine mg_aload_n C rfl rfl ?_
  refine mh_gR C rfl rfl rfl (by decide) hf (fun x2 hf => ?_)
  refine mh_gR C rfl rfl rfl (by decide) hf (fun x3 hf => ?_)
  refine mg_astore_n (lv' := [(0, .ref v0), (1, .int v1), (2, .int v2), (3, .ref x3)]) C rfl (Nat.le_of_ble_eq_true rfl) rfl ?_
  refine mg_iload_n C rfl rfl ?_
  refine mh_if_ne C rfl hf (fun e_14 hf => ?_) (fun e_14 hf => ?_)
  · refine mg_aload_n C rfl rfl ?_
    refine mh_gI C rfl rfl rfl (by decide) hf (fun x4 hf => ?_)
    exact wX11_sets_28 C hRm hd hn hk hw hf
  · refine mg_aload_n C rfl rfl ?_
    refine mh_gI C rfl rfl rfl (by decide) hf (fun x5 hf => ?_)
    refine mg_goto C rfl ?_
    exact wX11_sets_28 C hRm hd hn hk hw hf
def fX11_sets (N : Nat) (v0 : Nat) (v1 : Int32) (v2 : Int32) (c : mm_C) : mR Int32 := bX11_sets_0 N v0 v1 v2 c
set_option maxRecDepth 100000 in
theorem wX11_sets {Z : mm_Z} {d n N : Nat} (hd : 8 ≤ d) (hn : n + 1 < 1000000) {v0 : Nat} {v1 : Int32} {v2 : Int32} {c : mm_C} (hs : (fX11_sets N v0 v1 v2 c).isSome = true) : mC Z qX11_sets d 1 6 [.ref v0, .int v1, .int v2] (n, c) (mP 0 ovI n (fX11_sets N v0 v1 v2 c)) := by
  refine mC_of gX11_sets (by decide +kernel) (Nat.le_of_ble_eq_true rfl) fun X C hRm => ?_
  have hf := hO_mP 0 ovI n hs
  have hk : 0 + 1 ≤ 1 := Nat.le_of_ble_eq_true rfl
  have hw : 0 + 6 ≤ 6 := Nat.le_of_ble_eq_true rfl
  show mG _ _ _ _ _ _ _ _ (0, [(0, .ref v0), (1, .int v1), (2, .int v2)], [], (n, c))
  exact wX11_sets_0 C hRm hd hn hk hw hf
def bX11_clouds_27 (N : Nat)  (v0 : Nat) (c : mm_C) : mR Int32 :=
  cV 11 v0 c (fX11_refuseAct N v0 c) fun r1 c2 => some (.inl r1, c2)
set_option maxRecDepth 100000 in
theorem wX11_clouds_27 {Z : mm_Z} {X : mm_T} {k w mc ms d n N : Nat} {Q : mm_O → mm_H → Prop} (C : mm_Ok Z qX11_clouds X) (hRm : mt_R X = mm_rm d mc ms) (hd : 4 ≤ d) (hn : n + 1 < 1000000) (hk : k + 1 ≤ mc) (hw : w + 6 ≤ ms) {v0 : Nat} {c : mm_C} (hf : hO 0 ovI n (bX11_clouds_27 N  v0 c) Q) : mG Z qX11_clouds X k w mc ms Q (27, [(0, .ref v0)], [], (n, c)) := by
  unfold bX11_clouds_27 at hf
  refine mg_aload_n C rfl rfl ?_
  refine mh_cVI (M' := qX11_refuseAct) C rfl rfl aX11_refuseAct iX11_refuseAct sX11_refuseAct hRm (by omega) (by decide) (by omega) (by omega) rfl rfl rfl (Nat.le_of_ble_eq_true rfl) rfl hf (fun hs => wX11_refuseAct (by omega) (by omega) hs) (fun r1 c2 hf => ?_)
  exact mh_ireturn C rfl (by omega) (by omega) rfl hf
def bX11_clouds_0 (N : Nat)  (v0 : Nat) (v1 : Int32) (v2 : Int32) (v3 : Int32) (c : mm_C) : mR Int32 :=
  Option.bind (gR c v0 11 3) fun x1 => cV 3 x1 c (fX3_isMinute N x1 v1 c) fun r2 c3 => if r2 = 0 then (bX11_clouds_27 N  v0 c3) else (Option.bind (gR c3 v0 11 3) fun x4 => cV 3 x4 c3 (fX3_isMinute N x4 v2 c3) fun r5 c6 => if r5 = 0 then (bX11_clouds_27 N  v0 c6) else (if v1 ≤ v2 then (Option.bind (gR c6 v0 11 6) fun x7 => cV 5 x7 c6 (fX5_keepAct N x7 c6) fun (_ : Unit) c8 => Option.bind (gR c8 v0 11 6) fun x9 => Option.bind (gR c8 x9 5 0) fun x10 => Option.bind (gR c8 x10 9 8) fun x11 => cV 8 x11 c8 (fX8_paint N x11 v1 v2 v3 c8) fun r12 c13 => some (.inl r12, c13)) else (bX11_clouds_27 N  v0 c6)))
set_option maxRecDepth 100000 in
theorem wX11_clouds_0 {Z : mm_Z} {X : mm_T} {k w mc ms d n N : Nat} {Q : mm_O → mm_H → Prop} (C : mm_Ok Z qX11_clouds X) (hRm : mt_R X = mm_rm d mc ms) (hd : 4 ≤ d) (hn : n + 1 < 1000000) (hk : k + 1 ≤ mc) (hw : w + 6 ≤ ms) {v0 : Nat} {v1 : Int32} {v2 : Int32} {v3 : Int32} {c : mm_C} (hf : hO 0 ovI n (bX11_clouds_0 N  v0 v1 v2 v3 c) Q) : mG Z qX11_clouds X k w mc ms Q (0, [(0, .ref v0), (1, .int v1), (2, .int v2), (3, .int v3)], [], (n, c)) := by
  unfold bX11_clouds_0 at hf
  refine mg_aload_n C rfl rfl ?_
  refine mh_gR C rfl rfl rfl (by decide) hf (fun x1 hf => ?_)
  refine mg_iload_n C rfl rfl ?_
  refine mh_cVI (M' := qX3_isMinute) C rfl rfl aX3_isMinute iX3_isMinute sX3_isMinute hRm (by omega) (by decide) (by omega) (by omega) rfl rfl rfl (Nat.le_of_ble_eq_true rfl) rfl hf (fun hs => wX3_isMinute (by omega) (by omega) hs) (fun r2 c3 hf => ?_)
  refine mh_if_eq C rfl hf (fun e_8 hf => ?_) (fun e_8 hf => ?_)
  · refine mg_sub (lv' := [(0, .ref v0)]) (by simp) ?_
    exact wX11_clouds_27 C hRm hd hn hk hw hf
  · refine mg_aload_n C rfl rfl ?_
    refine mh_gR C rfl rfl rfl (by decide) hf (fun x4 hf => ?_)
    refine mg_iload_n C rfl rfl ?_
    refine mh_cVI (M' := qX3_isMinute) C rfl rfl aX3_isMinute iX3_isMinute sX3_isMinute hRm (by omega) (by decide) (by omega) (by omega) rfl rfl rfl (Nat.le_of_ble_eq_true rfl) rfl hf (fun hs => wX3_isMinute (by omega) (by omega) hs) (fun r5 c6 hf => ?_)
    refine mh_if_eq C rfl hf (fun e_19 hf => ?_) (fun e_19 hf => ?_)
    · refine mg_sub (lv' := [(0, .ref v0)]) (by simp) ?_
      exact wX11_clouds_27 C hRm hd hn hk hw hf
    · refine mg_iload_n C rfl rfl ?_
      refine mg_iload_n C rfl rfl ?_
      refine mh_icmp_ge C rfl hf (fun e_24 hf => ?_) (fun e_24 hf => ?_)
      · refine mg_aload_n C rfl rfl ?_
        refine mh_gR C rfl rfl rfl (by decide) hf (fun x7 hf => ?_)
        refine mh_cVU (M' := qX5_keepAct) C rfl rfl aX5_keepAct iX5_keepAct sX5_keepAct hRm (by omega) (by decide) (by omega) (by omega) rfl rfl rfl (Nat.le_of_ble_eq_true rfl) rfl hf (fun hs => wX5_keepAct (by omega) (by omega) hs) (fun c8 hf => ?_)
        refine mg_aload_n C rfl rfl ?_
        refine mh_gR C rfl rfl rfl (by decide) hf (fun x9 hf => ?_)
        refine mh_gR C rfl rfl rfl (by decide) hf (fun x10 hf => ?_)
        refine mh_gR C rfl rfl rfl (by decide) hf (fun x11 hf => ?_)
        refine mg_iload_n C rfl rfl ?_
        refine mg_iload_n C rfl rfl ?_
        refine mg_iload_n C rfl rfl ?_
        refine mh_cVI (M' := qX8_paint) C rfl rfl aX8_paint iX8_paint sX8_paint hRm (by omega) (by decide) (by omega) (by omega) rfl rfl rfl (Nat.le_of_ble_eq_true rfl) rfl hf (fun hs => wX8_paint (by omega) (by omega) hs) (fun r12 c13 hf => ?_)
        exact mh_ireturn C rfl (by omega) (by omega) rfl hf
      · refine mg_sub (lv' := [(0, .ref v0)]) (by simp) ?_
        exact wX11_clouds_27 C hRm hd hn hk hw hf
def fX11_clouds (N : Nat) (v0 : Nat) (v1 : Int32) (v2 : Int32) (v3 : Int32) (c : mm_C) : mR Int32 := bX11_clouds_0 N v0 v1 v2 v3 c
set_option maxRecDepth 100000 in
theorem wX11_clouds {Z : mm_Z} {d n N : Nat} (hd : 4 ≤ d) (hn : n + 1 < 1000000) {v0 : Nat} {v1 : Int32} {v2 : Int32} {v3 : Int32} {c : mm_C} (hs : (fX11_clouds N v0 v1 v2 v3 c).isSome = true) : mC Z qX11_clouds d 1 6 [.ref v0, .int v1, .int v2, .int v3] (n, c) (mP 0 ovI n (fX11_clouds N v0 v1 v2 v3 c)) := by
  refine mC_of gX11_clouds (by decide +kernel) (Nat.le_of_ble_eq_true rfl) fun X C hRm => ?_
  have hf := hO_mP 0 ovI n hs
  have hk : 0 + 1 ≤ 1 := Nat.le_of_ble_eq_true rfl
  have hw : 0 + 6 ≤ 6 := Nat.le_of_ble_eq_true rfl
  show mG _ _ _ _ _ _ _ _ (0, [(0, .ref v0), (1, .int v1), (2, .int v2), (3, .int v3)], [], (n, c))
  exact wX11_clouds_0 C hRm hd hn hk hw hf
def bX11_undo_0 (N : Nat)  (v0 : Nat) (c : mm_C) : mR Int32 :=
  Option.bind (gR c v0 11 6) fun x1 => cV 5 x1 c (fX5_goesBack N x1 c) fun r2 c3 => if r2 = 0 then (some (.inl (-1 : Int32), c3)) else (Option.bind (gR c3 v0 11 6) fun x4 => Option.bind (gI c3 x4 5 2) fun x5 => some (.inl x5, c3))
set_option maxRecDepth 100000 in
theorem wX11_undo_0 {Z : mm_Z} {X : mm_T} {k w mc ms d n N : Nat} {Q : mm_O → mm_H → Prop} (C : mm_Ok Z qX11_undo X) (hRm : mt_R X = mm_rm d mc ms) (hd : 4 ≤ d) (hn : n + 1 < 1000000) (hk : k + 1 ≤ mc) (hw : w + 6 ≤ ms) {v0 : Nat} {c : mm_C} (hf : hO 0 ovI n (bX11_undo_0 N  v0 c) Q) : mG Z qX11_undo X k w mc ms Q (0, [(0, .ref v0)], [], (n, c)) := by
  unfold bX11_undo_0 at hf
  refine mg_aload_n C rfl rfl ?_
  refine mh_gR C rfl rfl rfl (by decide) hf (fun x1 hf => ?_)
  refine mh_cVI (M' := qX5_goesBack) C rfl rfl aX5_goesBack iX5_goesBack sX5_goesBack hRm (by omega) (by decide) (by omega) (by omega) rfl rfl rfl (Nat.le_of_ble_eq_true rfl) rfl hf (fun hs => wX5_goesBack (by omega) (by omega) hs) (fun r2 c3 hf => ?_)
  refine mh_if_eq C rfl hf (fun e_7 hf => ?_) (fun e_7 hf => ?_)
  · refine mg_iconst (v := (-1)) C rfl (by decide) ?_
    exact mh_ireturn C rfl (by omega) (by omega) rfl hf
  · refine mg_aload_n C rfl rfl ?_
    refine mh_gR C rfl rfl rfl (by decide) hf (fun x4 hf => ?_)
    refine mh_gI C rfl rfl rfl (by decide) hf (fun x5 hf => ?_)
    refine mg_goto C rfl ?_
    exact mh_ireturn C rfl (by omega) (by omega) rfl hf
def fX11_undo (N : Nat) (v0 : Nat) (c : mm_C) : mR Int32 := bX11_undo_0 N v0 c
set_option maxRecDepth 100000 in
theorem wX11_undo {Z : mm_Z} {d n N : Nat} (hd : 4 ≤ d) (hn : n + 1 < 1000000) {v0 : Nat} {c : mm_C} (hs : (fX11_undo N v0 c).isSome = true) : mC Z qX11_undo d 1 6 [.ref v0] (n, c) (mP 0 ovI n (fX11_undo N v0 c)) := by
  refine mC_of gX11_undo (by decide +kernel) (Nat.le_of_ble_eq_true rfl) fun X C hRm => ?_
  have hf := hO_mP 0 ovI n hs
  have hk : 0 + 1 ≤ 1 := Nat.le_of_ble_eq_true rfl
  have hw : 0 + 6 ≤ 6 := Nat.le_of_ble_eq_true rfl
  show mG _ _ _ _ _ _ _ _ (0, [(0, .ref v0)], [], (n, c))
  exact wX11_undo_0 C hRm hd hn hk hw hf
def bX11_requireRule_19 (N : Nat)   (c : mm_C) : mR Unit :=
  some (.inr 1, c)
set_option maxRecDepth 100000 in
theorem wX11_requireRule_19 {Z : mm_Z} {X : mm_T} {k w mc ms d n N : Nat} {Q : mm_O → mm_H → Prop} (C : mm_Ok Z qX11_requireRule X) (hRm : mt_R X = mm_rm d mc ms) (hd : 7 ≤ d) (hn : n + 1 < 1000000) (hk : k + 1 ≤ mc) (hw : w + 6 ≤ ms)  {c : mm_C} (hf : hO 0 ovU n (bX11_requireRule_19 N   c) Q) : mG Z qX11_requireRule X k w mc ms Q (19, [], [], (n, c)) := by
  unfold bX11_requireRule_19 at hf
  exact mh_throw1 C rfl rfl rfl (Or.inr rfl) rfl rfl (by decide) hRm (by omega) (by omega) (by omega) (Nat.le_of_ble_eq_true rfl) rfl (by omega) hf
def bX11_requireRule_0 (N : Nat)  (v0 : Nat) (v1 : Int32) (c : mm_C) : mR Unit :=
  if v1 < (-1 : Int32) then (bX11_requireRule_19 N  c) else (Option.bind (gR c v0 11 3) fun x1 => Option.bind (gR c x1 3 8) fun x2 => Option.bind (gI c x2 4 0) fun x3 => if v1 < x3 then (some (.inl (), c)) else (bX11_requireRule_19 N  c))
set_option maxRecDepth 100000 in
theorem wX11_requireRule_0 {Z : mm_Z} {X : mm_T} {k w mc ms d n N : Nat} {Q : mm_O → mm_H → Prop} (C : mm_Ok Z qX11_requireRule X) (hRm : mt_R X = mm_rm d mc ms) (hd : 7 ≤ d) (hn : n + 1 < 1000000) (hk : k + 1 ≤ mc) (hw : w + 6 ≤ ms) {v0 : Nat} {v1 : Int32} {c : mm_C} (hf : hO 0 ovU n (bX11_requireRule_0 N  v0 v1 c) Q) : mG Z qX11_requireRule X k w mc ms Q (0, [(0, .ref v0), (1, .int v1)], [], (n, c)) := by
  unfold bX11_requireRule_0 at hf
  refine mg_iload_n C rfl rfl ?_
  refine mg_iconst (v := (-1)) C rfl (by decide) ?_
  refine mh_icmp_lt C rfl hf (fun e_2 hf => ?_) (fun e_2 hf => ?_)
  · refine mg_sub (lv' := []) (by simp) ?_
    exact wX11_requireRule_19 C hRm hd hn hk hw hf
  · refine mg_iload_n C rfl rfl ?_
    refine mg_aload_n C rfl rfl ?_
    refine mh_gR C rfl rfl rfl (by decide) hf (fun x1 hf => ?_)
    refine mh_gR C rfl rfl rfl (by decide) hf (fun x2 hf => ?_)
    refine mh_gI C rfl rfl rfl (by decide) hf (fun x3 hf => ?_)
    refine mh_icmp_lt C rfl hf (fun e_16 hf => ?_) (fun e_16 hf => ?_)
    · exact mh_return C rfl (by omega) (by omega) rfl hf
    · refine mg_sub (lv' := []) (by simp) ?_
      exact wX11_requireRule_19 C hRm hd hn hk hw hf
def fX11_requireRule (N : Nat) (v0 : Nat) (v1 : Int32) (c : mm_C) : mR Unit := bX11_requireRule_0 N v0 v1 c
set_option maxRecDepth 100000 in
theorem wX11_requireRule {Z : mm_Z} {d n N : Nat} (hd : 7 ≤ d) (hn : n + 1 < 1000000) {v0 : Nat} {v1 : Int32} {c : mm_C} (hs : (fX11_requireRule N v0 v1 c).isSome = true) : mC Z qX11_requireRule d 1 6 [.ref v0, .int v1] (n, c) (mP 0 ovU n (fX11_requireRule N v0 v1 c)) := by
  refine mC_of gX11_requireRule (by decide +kernel) (Nat.le_of_ble_eq_true rfl) fun X C hRm => ?_
  have hf := hO_mP 0 ovU n hs
  have hk : 0 + 1 ≤ 1 := Nat.le_of_ble_eq_true rfl
  have hw : 0 + 6 ≤ 6 := Nat.le_of_ble_eq_true rfl
  show mG _ _ _ _ _ _ _ _ (0, [(0, .ref v0), (1, .int v1)], [], (n, c))
  exact wX11_requireRule_0 C hRm hd hn hk hw hf
def bX11_day_0 (N : Nat)  (v0 : Nat) (v1 : Int32) (v2 : Int32) (c : mm_C) : mR Int32 :=
  cV 11 v0 c (fX11_requireRule N v0 v1 c) fun (_ : Unit) c1 => cS (fX11_requireWhat N v2 (4 : Int32) c1) fun (_ : Unit) c2 => Option.bind (gR c2 v0 11 11) fun x3 => Option.bind (gR c2 v0 11 3) fun x4 => Option.bind (gR c2 v0 11 6) fun x5 => Option.bind (gR c2 x5 5 0) fun x6 => cV 0 x3 c2 (fX0_runs N x3 x4 x6 v1 c2) fun (_ : Unit) c7 => if v2 = (0 : Int32) then (Option.bind (gR c7 v0 11 11) fun x8 => Option.bind (gI c7 x8 0 0) fun x9 => cS (fJ6_bitCount_0f7a4 N x9 c7) fun r10 c11 => some (.inl r10, c11)) else (if v2 = (1 : Int32) then (Option.bind (gR c7 v0 11 11) fun x12 => Option.bind (gI c7 x12 0 1) fun x13 => some (.inl x13, c7)) else (if v2 = (2 : Int32) then (Option.bind (gR c7 v0 11 11) fun x14 => Option.bind (gI c7 x14 0 2) fun x15 => some (.inl x15, c7)) else (if v2 = (3 : Int32) then (Option.bind (gR c7 v0 11 11) fun x16 => Option.bind (gI c7 x16 0 3) fun x17 => some (.inl x17, c7)) else (Option.bind (gR c7 v0 11 11) fun x18 => Option.bind (gI c7 x18 0 0) fun x19 => some (.inl x19, c7)))))
set_option maxRecDepth 100000 in
theorem wX11_day_0 {Z : mm_Z} {X : mm_T} {k w mc ms d n N : Nat} {Q : mm_O → mm_H → Prop} (C : mm_Ok Z qX11_day X) (hRm : mt_R X = mm_rm d mc ms) (hd : 8 ≤ d) (hn : n + 1 < 1000000) (hk : k + 1 ≤ mc) (hw : w + 6 ≤ ms) {v0 : Nat} {v1 : Int32} {v2 : Int32} {c : mm_C} (hf : hO 0 ovI n (bX11_day_0 N  v0 v1 v2 c) Q) : mG Z qX11_day X k w mc ms Q (0, [(0, .ref v0), (1, .int v1), (2, .int v2)], [], (n, c)) := by
  unfold bX11_day_0 at hf
  refine mg_aload_n C rfl rfl ?_
  refine mg_iload_n C rfl rfl ?_
  refine mh_cVU (M' := qX11_requireRule) C rfl rfl aX11_requireRule iX11_requireRule sX11_requireRule hRm (by omega) (by decide) (by omega) (by omega) rfl rfl rfl (Nat.le_of_ble_eq_true rfl) rfl hf (fun hs => wX11_requireRule (by omega) (by omega) hs) (fun c1 hf => ?_)
  refine mg_iload_n C rfl rfl ?_
  refine mg_iconst (v := 4) C rfl (by decide) ?_
  refine mh_cSU (M' := qX11_requireWhat) C rfl rfl aX11_requireWhat tX11_requireWhat hRm (by omega) (by decide) (by omega) (by omega) rfl rfl (Nat.le_of_ble_eq_true rfl) rfl hf (fun hs => wX11_requireWhat (by omega) (by omega) hs) (fun c2 hf => ?_)
  refine mg_aload_n C rfl rfl ?_
  refine mh_gR C rfl rfl rfl (by decide) hf (fun x3 hf => ?_)
  refine mg_aload_n C rfl rfl ?_
  refine mh_gR C rfl rfl rfl (by decide) hf (fun x4 hf => ?_)
  refine mg_aload_n C rfl rfl ?_
  refine mh_gR C rfl rfl rfl (by decide) hf (fun x5 hf => ?_)
  refine mh_gR C rfl rfl rfl (by decide) hf (fun x6 hf => ?_)
  refine mg_iload_n C rfl rfl ?_
  refine mh_cVU (M' := qX0_runs) C rfl rfl aX0_runs iX0_runs sX0_runs hRm (by omega) (by decide) (by omega) (by omega) rfl rfl rfl (Nat.le_of_ble_eq_true rfl) rfl hf (fun hs => wX0_runs (by omega) (by omega) hs) (fun c7 hf => ?_)
  refine mg_iload_n C rfl rfl ?_
  refine mh_case hf (fun e_30 hf => ?_) (fun n_1000 hf => ?_)
  · refine mg_tabIn e_30 (tgt := 60) C rfl (by decide) (by decide) rfl (by decide) ?_
    refine mg_aload_n C rfl rfl ?_
    refine mh_gR C rfl rfl rfl (by decide) hf (fun x8 hf => ?_)
    refine mh_gI C rfl rfl rfl (by decide) hf (fun x9 hf => ?_)
    refine mh_cSI (M' := qJ6_bitCount_0f7a4) C rfl rfl aJ6_bitCount_0f7a4 tJ6_bitCount_0f7a4 hRm (by omega) (by decide) (by omega) (by omega) rfl rfl (Nat.le_of_ble_eq_true rfl) rfl hf (fun hs => wJ6_bitCount_0f7a4 (by omega) (by omega) hs) (fun r10 c11 hf => ?_)
    exact mh_ireturn C rfl (by omega) (by omega) rfl hf
  refine mh_case hf (fun e_30 hf => ?_) (fun n_1001 hf => ?_)
  · refine mg_tabIn e_30 (tgt := 71) C rfl (by decide) (by decide) rfl (by decide) ?_
    refine mg_aload_n C rfl rfl ?_
    refine mh_gR C rfl rfl rfl (by decide) hf (fun x12 hf => ?_)
    refine mh_gI C rfl rfl rfl (by decide) hf (fun x13 hf => ?_)
    exact mh_ireturn C rfl (by omega) (by omega) rfl hf
  refine mh_case hf (fun e_30 hf => ?_) (fun n_1002 hf => ?_)
  · refine mg_tabIn e_30 (tgt := 79) C rfl (by decide) (by decide) rfl (by decide) ?_
    refine mg_aload_n C rfl rfl ?_
    refine mh_gR C rfl rfl rfl (by decide) hf (fun x14 hf => ?_)
    refine mh_gI C rfl rfl rfl (by decide) hf (fun x15 hf => ?_)
    exact mh_ireturn C rfl (by omega) (by omega) rfl hf
  refine mh_case hf (fun e_30 hf => ?_) (fun n_1003 hf => ?_)
  · refine mg_tabIn e_30 (tgt := 87) C rfl (by decide) (by decide) rfl (by decide) ?_
    refine mg_aload_n C rfl rfl ?_
    refine mh_gR C rfl rfl rfl (by decide) hf (fun x16 hf => ?_)
    refine mh_gI C rfl rfl rfl (by decide) hf (fun x17 hf => ?_)
    exact mh_ireturn C rfl (by omega) (by omega) rfl hf
  refine mg_tableOut (tgt := 95) C rfl (tsw_out [0, 1, 2, 3] (by decide) (List.forall_mem_cons.mpr ⟨n_1000, List.forall_mem_cons.mpr ⟨n_1001, List.forall_mem_cons.mpr ⟨n_1002, List.forall_mem_cons.mpr ⟨n_1003, List.forall_mem_nil _⟩⟩⟩⟩)) (by decide) ?_
  refine mg_aload_n C rfl rfl ?_
  refine mh_gR C rfl rfl rfl (by decide) hf (fun x18 hf => ?_)
  refine mh_gI C rfl rfl rfl (by decide) hf (fun x19 hf => ?_)
  exact mh_ireturn C rfl (by omega) (by omega) rfl hf
def fX11_day (N : Nat) (v0 : Nat) (v1 : Int32) (v2 : Int32) (c : mm_C) : mR Int32 := bX11_day_0 N v0 v1 v2 c
set_option maxRecDepth 100000 in
theorem wX11_day {Z : mm_Z} {d n N : Nat} (hd : 8 ≤ d) (hn : n + 1 < 1000000) {v0 : Nat} {v1 : Int32} {v2 : Int32} {c : mm_C} (hs : (fX11_day N v0 v1 v2 c).isSome = true) : mC Z qX11_day d 1 6 [.ref v0, .int v1, .int v2] (n, c) (mP 0 ovI n (fX11_day N v0 v1 v2 c)) := by
  refine mC_of gX11_day (by decide +kernel) (Nat.le_of_ble_eq_true rfl) fun X C hRm => ?_
  have hf := hO_mP 0 ovI n hs
  have hk : 0 + 1 ≤ 1 := Nat.le_of_ble_eq_true rfl
  have hw : 0 + 6 ≤ 6 := Nat.le_of_ble_eq_true rfl
  show mG _ _ _ _ _ _ _ _ (0, [(0, .ref v0), (1, .int v1), (2, .int v2)], [], (n, c))
  exact wX11_day_0 C hRm hd hn hk hw hf
def bX11_bestRule_99 (N : Nat)  (v1 : Int32) (c : mm_C) : mR Int32 :=
  some (.inl v1, c)
set_option maxRecDepth 100000 in
theorem wX11_bestRule_99 {Z : mm_Z} {X : mm_T} {k w mc ms d n N : Nat} {Q : mm_O → mm_H → Prop} (C : mm_Ok Z qX11_bestRule X) (hRm : mt_R X = mm_rm d mc ms) (hd : 6 ≤ d) (hn : n + 1 < 1000000) (hk : k + 1 ≤ mc) (hw : w + 6 ≤ ms) {v1 : Int32} {c : mm_C} (hf : hO 0 ovI n (bX11_bestRule_99 N  v1 c) Q) : mG Z qX11_bestRule X k w mc ms Q (99, [(1, .int v1)], [], (n, c)) := by
  unfold bX11_bestRule_99 at hf
  refine mg_iload_n C rfl rfl ?_
  exact mh_ireturn C rfl (by omega) (by omega) rfl hf
def bX11_bestRule_93 (N : Nat)  (k9 : Nat → Int32 → Int32 → Int32 → Int32 → mm_C → mR Int32) (v0 : Nat) (v1 : Int32) (v2 : Int32) (v3 : Int32) (v4 : Int32) (c : mm_C) : mR Int32 :=
  k9 v0 v1 v2 v3 (v4 + 1) c
set_option maxRecDepth 100000 in
theorem wX11_bestRule_93 {Z : mm_Z} {X : mm_T} {k w mc ms d n N : Nat} {Q : mm_O → mm_H → Prop} (C : mm_Ok Z qX11_bestRule X) (hRm : mt_R X = mm_rm d mc ms) (hd : 6 ≤ d) (hn : n + 1 < 1000000) (hk : k + 1 ≤ mc) (hw : w + 6 ≤ ms) {k9 : Nat → Int32 → Int32 → Int32 → Int32 → mm_C → mR Int32} (hk9 : ∀ (v0 : Nat) (v1 : Int32) (v2 : Int32) (v3 : Int32) (v4 : Int32) (c : mm_C), hO 0 ovI n (k9 v0 v1 v2 v3 v4 c) Q → mG Z qX11_bestRule X k w mc ms Q (9, [(0, .ref v0), (1, .int v1), (2, .int v2), (3, .int v3), (4, .int v4)], [], (n, c))) {v0 : Nat} {v1 : Int32} {v2 : Int32} {v3 : Int32} {v4 : Int32} {c : mm_C} (hf : hO 0 ovI n (bX11_bestRule_93 N  k9 v0 v1 v2 v3 v4 c) Q) : mG Z qX11_bestRule X k w mc ms Q (93, [(0, .ref v0), (1, .int v1), (2, .int v2), (3, .int v3), (4, .int v4)], [], (n, c)) := by
  unfold bX11_bestRule_93 at hf
  refine mg_iinc (lv' := [(0, .ref v0), (1, .int v1), (2, .int v2), (3, .int v3), (4, .int (v4 + 1))]) C rfl (Nat.le_of_ble_eq_true rfl) rfl (show _ + Int32.ofInt 1 = _ + 1 by congr 1) rfl ?_
  refine mg_goto C rfl ?_
  exact hk9 _ _ _ _ _ _ hf
def bX11_bestRule_79 (N : Nat)  (k9 : Nat → Int32 → Int32 → Int32 → Int32 → mm_C → mR Int32) (v0 : Nat) (v4 : Int32) (v5 : Int32) (c : mm_C) : mR Int32 :=
  Option.bind (gR c v0 11 11) fun x1 => Option.bind (gI c x1 0 1) fun x2 => bX11_bestRule_93 N  k9 v0 v4 v5 x2 v4 c
set_option maxRecDepth 100000 in
theorem wX11_bestRule_79 {Z : mm_Z} {X : mm_T} {k w mc ms d n N : Nat} {Q : mm_O → mm_H → Prop} (C : mm_Ok Z qX11_bestRule X) (hRm : mt_R X = mm_rm d mc ms) (hd : 6 ≤ d) (hn : n + 1 < 1000000) (hk : k + 1 ≤ mc) (hw : w + 6 ≤ ms) {k9 : Nat → Int32 → Int32 → Int32 → Int32 → mm_C → mR Int32} (hk9 : ∀ (v0 : Nat) (v1 : Int32) (v2 : Int32) (v3 : Int32) (v4 : Int32) (c : mm_C), hO 0 ovI n (k9 v0 v1 v2 v3 v4 c) Q → mG Z qX11_bestRule X k w mc ms Q (9, [(0, .ref v0), (1, .int v1), (2, .int v2), (3, .int v3), (4, .int v4)], [], (n, c))) {v0 : Nat} {v4 : Int32} {v5 : Int32} {c : mm_C} (hf : hO 0 ovI n (bX11_bestRule_79 N  k9 v0 v4 v5 c) Q) : mG Z qX11_bestRule X k w mc ms Q (79, [(0, .ref v0), (4, .int v4), (5, .int v5)], [], (n, c)) := by
  unfold bX11_bestRule_79 at hf
  refine mg_iload C rfl rfl ?_
  refine mg_istore_n (lv' := [(0, .ref v0), (1, .int v4), (4, .int v4), (5, .int v5)]) C rfl (Nat.le_of_ble_eq_true rfl) rfl ?_
  refine mg_iload C rfl rfl ?_
  refine mg_istore_n (lv' := [(0, .ref v0), (1, .int v4), (2, .int v5), (4, .int v4), (5, .int v5)]) C rfl (Nat.le_of_ble_eq_true rfl) rfl ?_
  refine mg_aload_n C rfl rfl ?_
  refine mh_gR C rfl rfl rfl (by decide) hf (fun x1 hf => ?_)
  refine mh_gI C rfl rfl rfl (by decide) hf (fun x2 hf => ?_)
  refine mg_istore_n (lv' := [(0, .ref v0), (1, .int v4), (2, .int v5), (3, .int x2), (4, .int v4), (5, .int v5)]) C rfl (Nat.le_of_ble_eq_true rfl) rfl ?_
  refine mg_sub (lv' := [(0, .ref v0), (1, .int v4), (2, .int v5), (3, .int x2), (4, .int v4)]) (by simp) ?_
  exact wX11_bestRule_93 C hRm hd hn hk hw hk9 hf
def bX11_bestRule_9 (N : Nat)  (k9 : Nat → Int32 → Int32 → Int32 → Int32 → mm_C → mR Int32) (v0 : Nat) (v1 : Int32) (v2 : Int32) (v3 : Int32) (v4 : Int32) (c : mm_C) : mR Int32 :=
  Option.bind (gR c v0 11 3) fun x1 => Option.bind (gR c x1 3 8) fun x2 => Option.bind (gI c x2 4 0) fun x3 => if x3 ≤ v4 then (bX11_bestRule_99 N  v1 c) else (Option.bind (gR c v0 11 11) fun x4 => Option.bind (gR c v0 11 3) fun x5 => Option.bind (gR c v0 11 6) fun x6 => Option.bind (gR c x6 5 0) fun x7 => cV 0 x4 c (fX0_runs N x4 x5 x7 v4 c) fun (_ : Unit) c8 => Option.bind (gR c8 v0 11 11) fun x9 => Option.bind (gI c8 x9 0 0) fun x10 => cS (fJ6_bitCount_0f7a4 N x10 c8) fun r11 c12 => if v2 < r11 then (bX11_bestRule_79 N  k9 v0 v4 r11 c12) else (if ¬ r11 = v2 then (bX11_bestRule_93 N  k9 v0 v1 v2 v3 v4 c12) else (Option.bind (gR c12 v0 11 11) fun x13 => Option.bind (gI c12 x13 0 1) fun x14 => if v3 ≤ x14 then (bX11_bestRule_93 N  k9 v0 v1 v2 v3 v4 c12) else (bX11_bestRule_79 N  k9 v0 v4 r11 c12))))
set_option maxRecDepth 100000 in
theorem wX11_bestRule_9 {Z : mm_Z} {X : mm_T} {k w mc ms d n N : Nat} {Q : mm_O → mm_H → Prop} (C : mm_Ok Z qX11_bestRule X) (hRm : mt_R X = mm_rm d mc ms) (hd : 6 ≤ d) (hn : n + 1 < 1000000) (hk : k + 1 ≤ mc) (hw : w + 6 ≤ ms) {k9 : Nat → Int32 → Int32 → Int32 → Int32 → mm_C → mR Int32} (hk9 : ∀ (v0 : Nat) (v1 : Int32) (v2 : Int32) (v3 : Int32) (v4 : Int32) (c : mm_C), hO 0 ovI n (k9 v0 v1 v2 v3 v4 c) Q → mG Z qX11_bestRule X k w mc ms Q (9, [(0, .ref v0), (1, .int v1), (2, .int v2), (3, .int v3), (4, .int v4)], [], (n, c))) {v0 : Nat} {v1 : Int32} {v2 : Int32} {v3 : Int32} {v4 : Int32} {c : mm_C} (hf : hO 0 ovI n (bX11_bestRule_9 N  k9 v0 v1 v2 v3 v4 c) Q) : mG Z qX11_bestRule X k w mc ms Q (9, [(0, .ref v0), (1, .int v1), (2, .int v2), (3, .int v3), (4, .int v4)], [], (n, c)) := by
  unfold bX11_bestRule_9 at hf
  refine mg_iload C rfl rfl ?_
  refine mg_aload_n C rfl rfl ?_
  refine mh_gR C rfl rfl rfl (by decide) hf (fun x1 hf => ?_)
  refine mh_gR C rfl rfl rfl (by decide) hf (fun x2 hf => ?_)
  refine mh_gI C rfl rfl rfl (by decide) hf (fun x3 hf => ?_)
  refine mh_icmp_ge C rfl hf (fun e_21 hf => ?_) (fun e_21 hf => ?_)
  · refine mg_sub (lv' := [(1, .int v1)]) (by simp) ?_
    exact wX11_bestRule_99 C hRm hd hn hk hw hf
  · refine mg_aload_n C rfl rfl ?_
    refine mh_gR C rfl rfl rfl (by decide) hf (fun x4 hf => ?_)
    refine mg_aload_n C rfl rfl ?_
    refine mh_gR C rfl rfl rfl (by decide) hf (fun x5 hf => ?_)
    refine mg_aload_n C rfl rfl ?_
    refine mh_gR C rfl rfl rfl (by decide) hf (fun x6 hf => ?_)
    refine mh_gR C rfl rfl rfl (by decide) hf (fun x7 hf => ?_)
    refine mg_iload C rfl rfl ?_
    refine mh_cVU (M' := qX0_runs) C rfl rfl aX0_runs iX0_runs sX0_runs hRm (by omega) (by decide) (by omega) (by omega) rfl rfl rfl (Nat.le_of_ble_eq_true rfl) rfl hf (fun hs => wX0_runs (by omega) (by omega) hs) (fun c8 hf => ?_)
    refine mg_aload_n C rfl rfl ?_
    refine mh_gR C rfl rfl rfl (by decide) hf (fun x9 hf => ?_)
    refine mh_gI C rfl rfl rfl (by decide) hf (fun x10 hf => ?_)
    refine mh_cSI (M' := qJ6_bitCount_0f7a4) C rfl rfl aJ6_bitCount_0f7a4 tJ6_bitCount_0f7a4 hRm (by omega) (by decide) (by omega) (by omega) rfl rfl (Nat.le_of_ble_eq_true rfl) rfl hf (fun hs => wJ6_bitCount_0f7a4 (by omega) (by omega) hs) (fun r11 c12 hf => ?_)
    refine mg_istore (lv' := [(0, .ref v0), (1, .int v1), (2, .int v2), (3, .int v3), (4, .int v4), (5, .int r11)]) C rfl (Nat.le_of_ble_eq_true rfl) rfl ?_
    refine mg_iload C rfl rfl ?_
    refine mg_iload_n C rfl rfl ?_
    refine mh_icmp_gt C rfl hf (fun e_59 hf => ?_) (fun e_59 hf => ?_)
    · refine mg_sub (lv' := [(0, .ref v0), (4, .int v4), (5, .int r11)]) (by simp) ?_
      exact wX11_bestRule_79 C hRm hd hn hk hw hk9 hf
    · refine mg_iload C rfl rfl ?_
      refine mg_iload_n C rfl rfl ?_
      refine mh_icmp_ne C rfl hf (fun e_65 hf => ?_) (fun e_65 hf => ?_)
      · refine mg_sub (lv' := [(0, .ref v0), (1, .int v1), (2, .int v2), (3, .int v3), (4, .int v4)]) (by simp) ?_
        exact wX11_bestRule_93 C hRm hd hn hk hw hk9 hf
      · refine mg_aload_n C rfl rfl ?_
        refine mh_gR C rfl rfl rfl (by decide) hf (fun x13 hf => ?_)
        refine mh_gI C rfl rfl rfl (by decide) hf (fun x14 hf => ?_)
        refine mg_iload_n C rfl rfl ?_
        refine mh_icmp_ge C rfl hf (fun e_76 hf => ?_) (fun e_76 hf => ?_)
        · refine mg_sub (lv' := [(0, .ref v0), (1, .int v1), (2, .int v2), (3, .int v3), (4, .int v4)]) (by simp) ?_
          exact wX11_bestRule_93 C hRm hd hn hk hw hk9 hf
        · refine mg_sub (lv' := [(0, .ref v0), (4, .int v4), (5, .int r11)]) (by simp) ?_
          exact wX11_bestRule_79 C hRm hd hn hk hw hk9 hf
def lX11_bestRule_9 (N : Nat)  : Nat → Nat → Int32 → Int32 → Int32 → Int32 → mm_C → mR Int32
  | 0, _, _, _, _, _, _ => none
  | m + 1, v0, v1, v2, v3, v4, c => bX11_bestRule_9 N  (lX11_bestRule_9 N  m) v0 v1 v2 v3 v4 c
theorem WX11_bestRule_9 {Z : mm_Z} {X : mm_T} {k w mc ms d n N : Nat} {Q : mm_O → mm_H → Prop} (C : mm_Ok Z qX11_bestRule X) (hRm : mt_R X = mm_rm d mc ms) (hd : 6 ≤ d) (hn : n + 1 < 1000000) (hk : k + 1 ≤ mc) (hw : w + 6 ≤ ms) : ∀ (m : Nat) {v0 : Nat} {v1 : Int32} {v2 : Int32} {v3 : Int32} {v4 : Int32} {c : mm_C} (hf : hO 0 ovI n (lX11_bestRule_9 N  m v0 v1 v2 v3 v4 c) Q), mG Z qX11_bestRule X k w mc ms Q (9, [(0, .ref v0), (1, .int v1), (2, .int v2), (3, .int v3), (4, .int v4)], [], (n, c)) := by
  intro m
  induction m with
  | zero => intro v0 v1 v2 v3 v4 c hf; exact absurd hf hO_none
  | succ m ih => intro v0 v1 v2 v3 v4 c hf; exact wX11_bestRule_9 C hRm hd hn hk hw (fun v0 v1 v2 v3 v4 c hf => ih hf) hf
def bX11_bestRule_0 (N : Nat)  (v0 : Nat) (c : mm_C) : mR Int32 :=
  lX11_bestRule_9 N  N v0 (-1 : Int32) (-1 : Int32) (0 : Int32) (-1 : Int32) c
set_option maxRecDepth 100000 in
theorem wX11_bestRule_0 {Z : mm_Z} {X : mm_T} {k w mc ms d n N : Nat} {Q : mm_O → mm_H → Prop} (C : mm_Ok Z qX11_bestRule X) (hRm : mt_R X = mm_rm d mc ms) (hd : 6 ≤ d) (hn : n + 1 < 1000000) (hk : k + 1 ≤ mc) (hw : w + 6 ≤ ms) {v0 : Nat} {c : mm_C} (hf : hO 0 ovI n (bX11_bestRule_0 N  v0 c) Q) : mG Z qX11_bestRule X k w mc ms Q (0, [(0, .ref v0)], [], (n, c)) := by
  unfold bX11_bestRule_0 at hf
  refine mg_iconst (v := (-1)) C rfl (by decide) ?_
  refine mg_istore_n (lv' := [(0, .ref v0), (1, .int (-1 : Int32))]) C rfl (Nat.le_of_ble_eq_true rfl) rfl ?_
  refine mg_iconst (v := (-1)) C rfl (by decide) ?_
  refine mg_istore_n (lv' := [(0, .ref v0), (1, .int (-1 : Int32)), (2, .int (-1 : Int32))]) C rfl (Nat.le_of_ble_eq_true rfl) rfl ?_
  refine mg_iconst (v := 0) C rfl (by decide) ?_
  refine mg_istore_n (lv' := [(0, .ref v0), (1, .int (-1 : Int32)), (2, .int (-1 : Int32)), (3, .int (0 : Int32))]) C rfl (Nat.le_of_ble_eq_true rfl) rfl ?_
  refine mg_iconst (v := (-1)) C rfl (by decide) ?_
  refine mg_istore (lv' := [(0, .ref v0), (1, .int (-1 : Int32)), (2, .int (-1 : Int32)), (3, .int (0 : Int32)), (4, .int (-1 : Int32))]) C rfl (Nat.le_of_ble_eq_true rfl) rfl ?_
  exact WX11_bestRule_9 C hRm hd hn hk hw N hf
def fX11_bestRule (N : Nat) (v0 : Nat) (c : mm_C) : mR Int32 := bX11_bestRule_0 N v0 c
set_option maxRecDepth 100000 in
theorem wX11_bestRule {Z : mm_Z} {d n N : Nat} (hd : 6 ≤ d) (hn : n + 1 < 1000000) {v0 : Nat} {c : mm_C} (hs : (fX11_bestRule N v0 c).isSome = true) : mC Z qX11_bestRule d 1 6 [.ref v0] (n, c) (mP 0 ovI n (fX11_bestRule N v0 c)) := by
  refine mC_of gX11_bestRule (by decide +kernel) (Nat.le_of_ble_eq_true rfl) fun X C hRm => ?_
  have hf := hO_mP 0 ovI n hs
  have hk : 0 + 1 ≤ 1 := Nat.le_of_ble_eq_true rfl
  have hw : 0 + 6 ≤ 6 := Nat.le_of_ble_eq_true rfl
  show mG _ _ _ _ _ _ _ _ (0, [(0, .ref v0)], [], (n, c))
  exact wX11_bestRule_0 C hRm hd hn hk hw hf
def bX11_best_0 (N : Nat)  (v0 : Nat) (c : mm_C) : mR Int32 :=
  cV 11 v0 c (fX11_bestRule N v0 c) fun r1 c2 => some (.inl r1, c2)
set_option maxRecDepth 100000 in
theorem wX11_best_0 {Z : mm_Z} {X : mm_T} {k w mc ms d n N : Nat} {Q : mm_O → mm_H → Prop} (C : mm_Ok Z qX11_best X) (hRm : mt_R X = mm_rm d mc ms) (hd : 7 ≤ d) (hn : n + 1 < 1000000) (hk : k + 1 ≤ mc) (hw : w + 6 ≤ ms) {v0 : Nat} {c : mm_C} (hf : hO 0 ovI n (bX11_best_0 N  v0 c) Q) : mG Z qX11_best X k w mc ms Q (0, [(0, .ref v0)], [], (n, c)) := by
  unfold bX11_best_0 at hf
  refine mg_aload_n C rfl rfl ?_
  refine mh_cVI (M' := qX11_bestRule) C rfl rfl aX11_bestRule iX11_bestRule sX11_bestRule hRm (by omega) (by decide) (by omega) (by omega) rfl rfl rfl (Nat.le_of_ble_eq_true rfl) rfl hf (fun hs => wX11_bestRule (by omega) (by omega) hs) (fun r1 c2 hf => ?_)
  exact mh_ireturn C rfl (by omega) (by omega) rfl hf
def fX11_best (N : Nat) (v0 : Nat) (c : mm_C) : mR Int32 := bX11_best_0 N v0 c
set_option maxRecDepth 100000 in
theorem wX11_best {Z : mm_Z} {d n N : Nat} (hd : 7 ≤ d) (hn : n + 1 < 1000000) {v0 : Nat} {c : mm_C} (hs : (fX11_best N v0 c).isSome = true) : mC Z qX11_best d 1 6 [.ref v0] (n, c) (mP 0 ovI n (fX11_best N v0 c)) := by
  refine mC_of gX11_best (by decide +kernel) (Nat.le_of_ble_eq_true rfl) fun X C hRm => ?_
  have hf := hO_mP 0 ovI n hs
  have hk : 0 + 1 ≤ 1 := Nat.le_of_ble_eq_true rfl
  have hw : 0 + 6 ≤ 6 := Nat.le_of_ble_eq_true rfl
  show mG _ _ _ _ _ _ _ _ (0, [(0, .ref v0)], [], (n, c))
  exact wX11_best_0 C hRm hd hn hk hw hf
def bX11_findMost_0 (N : Nat)  (v0 : Nat) (v1 : Nat) (v2 : Int32) (c : mm_C) : mR Unit :=
  Option.bind (gR c v0 11 12) fun x1 => Option.bind (gR c v0 11 3) fun x2 => cV 6 x1 c (fX6_prepares N x1 x2 v1 v2 c) fun (_ : Unit) c3 => Option.bind (gR c3 v0 11 12) fun x4 => Option.bind (gR c3 v0 11 12) fun x5 => Option.bind (gI c3 x5 6 0) fun x6 => cV 6 x4 c3 (fX6_spreads N x4 x6 c3) fun (_ : Unit) c7 => Option.bind (gR c7 v0 11 12) fun x8 => cV 6 x8 c7 (fX6_picksMost N x8 c7) fun (_ : Unit) c9 => some (.inl (), c9)
set_option maxRecDepth 100000 in
theorem wX11_findMost_0 {Z : mm_Z} {X : mm_T} {k w mc ms d n N : Nat} {Q : mm_O → mm_H → Prop} (C : mm_Ok Z qX11_findMost X) (hRm : mt_R X = mm_rm d mc ms) (hd : 6 ≤ d) (hn : n + 1 < 1000000) (hk : k + 1 ≤ mc) (hw : w + 6 ≤ ms) {v0 : Nat} {v1 : Nat} {v2 : Int32} {c : mm_C} (hf : hO 0 ovU n (bX11_findMost_0 N  v0 v1 v2 c) Q) : mG Z qX11_findMost X k w mc ms Q (0, [(0, .ref v0), (1, .ref v1), (2, .int v2)], [], (n, c)) := by
  unfold bX11_findMost_0 at hf
  refine mg_aload_n C rfl rfl ?_
  refine mh_gR C rfl rfl rfl (by decide) hf (fun x1 hf => ?_)
  refine mg_aload_n C rfl rfl ?_
  refine mh_gR C rfl rfl rfl (by decide) hf (fun x2 hf => ?_)
  refine mg_aload_n C rfl rfl ?_
  refine mg_iload_n C rfl rfl ?_
  refine mh_cVU (M' := qX6_prepares) C rfl rfl aX6_prepares iX6_prepares sX6_prepares hRm (by omega) (by decide) (by omega) (by omega) rfl rfl rfl (Nat.le_of_ble_eq_true rfl) rfl hf (fun hs => wX6_prepares (by omega) (by omega) hs) (fun c3 hf => ?_)
  refine mg_aload_n C rfl rfl ?_
  refine mh_gR C rfl rfl rfl (by decide) hf (fun x4 hf => ?_)
  refine mg_aload_n C rfl rfl ?_
  refine mh_gR C rfl rfl rfl (by decide) hf (fun x5 hf => ?_)
  refine mh_gI C rfl rfl rfl (by decide) hf (fun x6 hf => ?_)
  refine mh_cVU (M' := qX6_spreads) C rfl rfl aX6_spreads iX6_spreads sX6_spreads hRm (by omega) (by decide) (by omega) (by omega) rfl rfl rfl (Nat.le_of_ble_eq_true rfl) rfl hf (fun hs => wX6_spreads (by omega) (by omega) hs) (fun c7 hf => ?_)
  refine mg_aload_n C rfl rfl ?_
  refine mh_gR C rfl rfl rfl (by decide) hf (fun x8 hf => ?_)
  refine mh_cVU (M' := qX6_picksMost) C rfl rfl aX6_picksMost iX6_picksMost sX6_picksMost hRm (by omega) (by decide) (by omega) (by omega) rfl rfl rfl (Nat.le_of_ble_eq_true rfl) rfl hf (fun hs => wX6_picksMost (by omega) (by omega) hs) (fun c9 hf => ?_)
  exact mh_return C rfl (by omega) (by omega) rfl hf
def fX11_findMost (N : Nat) (v0 : Nat) (v1 : Nat) (v2 : Int32) (c : mm_C) : mR Unit := bX11_findMost_0 N v0 v1 v2 c
set_option maxRecDepth 100000 in
theorem wX11_findMost {Z : mm_Z} {d n N : Nat} (hd : 6 ≤ d) (hn : n + 1 < 1000000) {v0 : Nat} {v1 : Nat} {v2 : Int32} {c : mm_C} (hs : (fX11_findMost N v0 v1 v2 c).isSome = true) : mC Z qX11_findMost d 1 6 [.ref v0, .ref v1, .int v2] (n, c) (mP 0 ovU n (fX11_findMost N v0 v1 v2 c)) := by
  refine mC_of gX11_findMost (by decide +kernel) (Nat.le_of_ble_eq_true rfl) fun X C hRm => ?_
  have hf := hO_mP 0 ovU n hs
  have hk : 0 + 1 ≤ 1 := Nat.le_of_ble_eq_true rfl
  have hw : 0 + 6 ≤ 6 := Nat.le_of_ble_eq_true rfl
  show mG _ _ _ _ _ _ _ _ (0, [(0, .ref v0), (1, .ref v1), (2, .int v2)], [], (n, c))
  exact wX11_findMost_0 C hRm hd hn hk hw hf
def bX11_most_0 (N : Nat)  (v0 : Nat) (v1 : Int32) (c : mm_C) : mR Int32 :=
  cS (fX11_requireWhat N v1 (2 : Int32) c) fun (_ : Unit) c1 => Option.bind (gR c1 v0 11 6) fun x2 => Option.bind (gR c1 x2 5 0) fun x3 => Option.bind (gR c1 v0 11 3) fun x4 => Option.bind (gI c1 x4 3 0) fun x5 => cV 11 v0 c1 (fX11_findMost N v0 x3 x5 c1) fun (_ : Unit) c6 => if v1 = (0 : Int32) then (Option.bind (gR c6 v0 11 12) fun x7 => Option.bind (gI c6 x7 6 1) fun x8 => some (.inl x8, c6)) else (if v1 = (1 : Int32) then (Option.bind (gR c6 v0 11 12) fun x9 => Option.bind (gI c6 x9 6 2) fun x10 => some (.inl x10, c6)) else (Option.bind (gR c6 v0 11 12) fun x11 => Option.bind (gI c6 x11 6 3) fun x12 => some (.inl x12, c6)))
set_option maxRecDepth 100000 in
theorem wX11_most_0 {Z : mm_Z} {X : mm_T} {k w mc ms d n N : Nat} {Q : mm_O → mm_H → Prop} (C : mm_Ok Z qX11_most X) (hRm : mt_R X = mm_rm d mc ms) (hd : 8 ≤ d) (hn : n + 1 < 1000000) (hk : k + 1 ≤ mc) (hw : w + 6 ≤ ms) {v0 : Nat} {v1 : Int32} {c : mm_C} (hf : hO 0 ovI n (bX11_most_0 N  v0 v1 c) Q) : mG Z qX11_most X k w mc ms Q (0, [(0, .ref v0), (1, .int v1)], [], (n, c)) := by
  unfold bX11_most_0 at hf
  refine mg_iload_n C rfl rfl ?_
  refine mg_iconst (v := 2) C rfl (by decide) ?_
  refine mh_cSU (M' := qX11_requireWhat) C rfl rfl aX11_requireWhat tX11_requireWhat hRm (by omega) (by decide) (by omega) (by omega) rfl rfl (Nat.le_of_ble_eq_true rfl) rfl hf (fun hs => wX11_requireWhat (by omega) (by omega) hs) (fun c1 hf => ?_)
  refine mg_aload_n C rfl rfl ?_
  refine mg_aload_n C rfl rfl ?_
  refine mh_gR C rfl rfl rfl (by decide) hf (fun x2 hf => ?_)
  refine mh_gR C rfl rfl rfl (by decide) hf (fun x3 hf => ?_)
  refine mg_aload_n C rfl rfl ?_
  refine mh_gR C rfl rfl rfl (by decide) hf (fun x4 hf => ?_)
  refine mh_gI C rfl rfl rfl (by decide) hf (fun x5 hf => ?_)
  refine mh_cVU (M' := qX11_findMost) C rfl rfl aX11_findMost iX11_findMost sX11_findMost hRm (by omega) (by decide) (by omega) (by omega) rfl rfl rfl (Nat.le_of_ble_eq_true rfl) rfl hf (fun hs => wX11_findMost (by omega) (by omega) hs) (fun c6 hf => ?_)
  refine mg_iload_n C rfl rfl ?_
  refine mh_case hf (fun e_24 hf => ?_) (fun n_1000 hf => ?_)
  · refine mg_lookIn e_24 (tgt := 52) C rfl (by decide) rfl (by decide) ?_
    refine mg_aload_n C rfl rfl ?_
    refine mh_gR C rfl rfl rfl (by decide) hf (fun x7 hf => ?_)
    refine mh_gI C rfl rfl rfl (by decide) hf (fun x8 hf => ?_)
    exact mh_ireturn C rfl (by omega) (by omega) rfl hf
  refine mh_case hf (fun e_24 hf => ?_) (fun n_1001 hf => ?_)
  · refine mg_lookIn e_24 (tgt := 60) C rfl (by decide) rfl (by decide) ?_
    refine mg_aload_n C rfl rfl ?_
    refine mh_gR C rfl rfl rfl (by decide) hf (fun x9 hf => ?_)
    refine mh_gI C rfl rfl rfl (by decide) hf (fun x10 hf => ?_)
    exact mh_ireturn C rfl (by omega) (by omega) rfl hf
  refine mg_look (tgt := 68) (off := 44) C rfl (by decide) ((lv_osw (k := 0) (a := 0) n_1000 (by decide)).trans ((lv_osw (k := 1) (a := 1) n_1001 (by decide)).trans (rfl))) (by decide) ?_
  refine mg_aload_n C rfl rfl ?_
  refine mh_gR C rfl rfl rfl (by decide) hf (fun x11 hf => ?_)
  refine mh_gI C rfl rfl rfl (by decide) hf (fun x12 hf => ?_)
  exact mh_ireturn C rfl (by omega) (by omega) rfl hf
def fX11_most (N : Nat) (v0 : Nat) (v1 : Int32) (c : mm_C) : mR Int32 := bX11_most_0 N v0 v1 c
set_option maxRecDepth 100000 in
theorem wX11_most {Z : mm_Z} {d n N : Nat} (hd : 8 ≤ d) (hn : n + 1 < 1000000) {v0 : Nat} {v1 : Int32} {c : mm_C} (hs : (fX11_most N v0 v1 c).isSome = true) : mC Z qX11_most d 1 6 [.ref v0, .int v1] (n, c) (mP 0 ovI n (fX11_most N v0 v1 c)) := by
  refine mC_of gX11_most (by decide +kernel) (Nat.le_of_ble_eq_true rfl) fun X C hRm => ?_
  have hf := hO_mP 0 ovI n hs
  have hk : 0 + 1 ≤ 1 := Nat.le_of_ble_eq_true rfl
  have hw : 0 + 6 ≤ 6 := Nat.le_of_ble_eq_true rfl
  show mG _ _ _ _ _ _ _ _ (0, [(0, .ref v0), (1, .int v1)], [], (n, c))
  exact wX11_most_0 C hRm hd hn hk hw hf
def bX11_order_33 (N : Nat)   (c : mm_C) : mR Int32 :=
  some (.inr 1, c)
set_option maxRecDepth 100000 in
theorem wX11_order_33 {Z : mm_Z} {X : mm_T} {k w mc ms d n N : Nat} {Q : mm_O → mm_H → Prop} (C : mm_Ok Z qX11_order X) (hRm : mt_R X = mm_rm d mc ms) (hd : 7 ≤ d) (hn : n + 1 < 1000000) (hk : k + 1 ≤ mc) (hw : w + 6 ≤ ms)  {c : mm_C} (hf : hO 0 ovI n (bX11_order_33 N   c) Q) : mG Z qX11_order X k w mc ms Q (33, [], [], (n, c)) := by
  unfold bX11_order_33 at hf
  exact mh_throw1 C rfl rfl rfl (Or.inr rfl) rfl rfl (by decide) hRm (by omega) (by omega) (by omega) (Nat.le_of_ble_eq_true rfl) rfl (by omega) hf
def bX11_order_0 (N : Nat)  (v0 : Nat) (v1 : Int32) (c : mm_C) : mR Int32 :=
  Option.bind (gR c v0 11 6) fun x1 => Option.bind (gR c x1 5 0) fun x2 => Option.bind (gR c v0 11 3) fun x3 => Option.bind (gI c x3 3 0) fun x4 => cV 11 v0 c (fX11_findMost N v0 x2 x4 c) fun (_ : Unit) c5 => if v1 < 0 then (bX11_order_33 N  c5) else (Option.bind (gR c5 v0 11 12) fun x6 => Option.bind (gI c5 x6 6 1) fun x7 => if v1 < x7 then (Option.bind (gR c5 v0 11 12) fun x8 => cV 6 x8 c5 (fX6_ordersMost N x8 c5) fun (_ : Unit) c9 => Option.bind (gR c9 v0 11 12) fun x10 => Option.bind (gR c9 x10 6 4) fun x11 => Option.bind (aI c9 x11 v1) fun x12 => some (.inl x12, c9)) else (bX11_order_33 N  c5))
set_option maxRecDepth 100000 in
theorem wX11_order_0 {Z : mm_Z} {X : mm_T} {k w mc ms d n N : Nat} {Q : mm_O → mm_H → Prop} (C : mm_Ok Z qX11_order X) (hRm : mt_R X = mm_rm d mc ms) (hd : 7 ≤ d) (hn : n + 1 < 1000000) (hk : k + 1 ≤ mc) (hw : w + 6 ≤ ms) {v0 : Nat} {v1 : Int32} {c : mm_C} (hf : hO 0 ovI n (bX11_order_0 N  v0 v1 c) Q) : mG Z qX11_order X k w mc ms Q (0, [(0, .ref v0), (1, .int v1)], [], (n, c)) := by
  unfold bX11_order_0 at hf
  refine mg_aload_n C rfl rfl ?_
  refine mg_aload_n C rfl rfl ?_
  refine mh_gR C rfl rfl rfl (by decide) hf (fun x1 hf => ?_)
  refine mh_gR C rfl rfl rfl (by decide) hf (fun x2 hf => ?_)
  refine mg_aload_n C rfl rfl ?_
  refine mh_gR C rfl rfl rfl (by decide) hf (fun x3 hf => ?_)
  refine mh_gI C rfl rfl rfl (by decide) hf (fun x4 hf => ?_)
  refine mh_cVU (M' := qX11_findMost) C rfl rfl aX11_findMost iX11_findMost sX11_findMost hRm (by omega) (by decide) (by omega) (by omega) rfl rfl rfl (Nat.le_of_ble_eq_true rfl) rfl hf (fun hs => wX11_findMost (by omega) (by omega) hs) (fun c5 hf => ?_)
  refine mg_iload_n C rfl rfl ?_
  refine mh_if_lt C rfl hf (fun e_19 hf => ?_) (fun e_19 hf => ?_)
  · refine mg_sub (lv' := []) (by simp) ?_
    exact wX11_order_33 C hRm hd hn hk hw hf
  · refine mg_iload_n C rfl rfl ?_
    refine mg_aload_n C rfl rfl ?_
    refine mh_gR C rfl rfl rfl (by decide) hf (fun x6 hf => ?_)
    refine mh_gI C rfl rfl rfl (by decide) hf (fun x7 hf => ?_)
    refine mh_icmp_lt C rfl hf (fun e_30 hf => ?_) (fun e_30 hf => ?_)
    · refine mg_aload_n C rfl rfl ?_
      refine mh_gR C rfl rfl rfl (by decide) hf (fun x8 hf => ?_)
      refine mh_cVU (M' := qX6_ordersMost) C rfl rfl aX6_ordersMost iX6_ordersMost sX6_ordersMost hRm (by omega) (by decide) (by omega) (by omega) rfl rfl rfl (Nat.le_of_ble_eq_true rfl) rfl hf (fun hs => wX6_ordersMost (by omega) (by omega) hs) (fun c9 hf => ?_)
      refine mg_aload_n C rfl rfl ?_
      refine mh_gR C rfl rfl rfl (by decide) hf (fun x10 hf => ?_)
      refine mh_gR C rfl rfl rfl (by decide) hf (fun x11 hf => ?_)
      refine mg_iload_n C rfl rfl ?_
      refine mh_aI C rfl hf (fun x12 hf => ?_)
      exact mh_ireturn C rfl (by omega) (by omega) rfl hf
    · refine mg_sub (lv' := []) (by simp) ?_
      exact wX11_order_33 C hRm hd hn hk hw hf
def fX11_order (N : Nat) (v0 : Nat) (v1 : Int32) (c : mm_C) : mR Int32 := bX11_order_0 N v0 v1 c
set_option maxRecDepth 100000 in
theorem wX11_order {Z : mm_Z} {d n N : Nat} (hd : 7 ≤ d) (hn : n + 1 < 1000000) {v0 : Nat} {v1 : Int32} {c : mm_C} (hs : (fX11_order N v0 v1 c).isSome = true) : mC Z qX11_order d 1 6 [.ref v0, .int v1] (n, c) (mP 0 ovI n (fX11_order N v0 v1 c)) := by
  refine mC_of gX11_order (by decide +kernel) (Nat.le_of_ble_eq_true rfl) fun X C hRm => ?_
  have hf := hO_mP 0 ovI n hs
  have hk : 0 + 1 ≤ 1 := Nat.le_of_ble_eq_true rfl
  have hw : 0 + 6 ≤ 6 := Nat.le_of_ble_eq_true rfl
  show mG _ _ _ _ _ _ _ _ (0, [(0, .ref v0), (1, .int v1)], [], (n, c))
  exact wX11_order_0 C hRm hd hn hk hw hf
def bX11_soonest_35 (N : Nat)   (c : mm_C) : mR Int32 :=
  some (.inr 0, c)
set_option maxRecDepth 100000 in
theorem wX11_soonest_35 {Z : mm_Z} {X : mm_T} {k w mc ms d n N : Nat} {Q : mm_O → mm_H → Prop} (C : mm_Ok Z qX11_soonest X) (hRm : mt_R X = mm_rm d mc ms) (hd : 7 ≤ d) (hn : n + 1 < 1000000) (hk : k + 1 ≤ mc) (hw : w + 6 ≤ ms)  {c : mm_C} (hf : hO 0 ovI n (bX11_soonest_35 N   c) Q) : mG Z qX11_soonest X k w mc ms Q (35, [], [], (n, c)) := by
  unfold bX11_soonest_35 at hf
  exact mh_throw0 C rfl rfl rfl (Or.inr rfl) rfl rfl (by decide) hRm (by omega) (by omega) (by omega) (Nat.le_of_ble_eq_true rfl) rfl (by omega) hf
def bX11_soonest_0 (N : Nat)  (v0 : Nat) (v1 : Int32) (c : mm_C) : mR Int32 :=
  Option.bind (gR c v0 11 3) fun x1 => Option.bind (gI c x1 3 3) fun x2 => if ¬ (v1 &&& ((((1 : Int32) <<< (x2 &&& 31)) - (1 : Int32)) ^^^ (-1 : Int32))) = 0 then (bX11_soonest_35 N  c) else (Option.bind (gR c v0 11 6) fun x3 => Option.bind (gR c x3 5 0) fun x4 => Option.bind (gI c x4 9 2) fun x5 => if (v1 &&& x5) = 0 then (Option.bind (gR c v0 11 12) fun x6 => Option.bind (gR c v0 11 3) fun x7 => Option.bind (gR c v0 11 6) fun x8 => Option.bind (gR c x8 5 0) fun x9 => Option.bind (gR c v0 11 3) fun x10 => Option.bind (gI c x10 3 0) fun x11 => cV 6 x6 c (fX6_prepares N x6 x7 x9 x11 c) fun (_ : Unit) c12 => Option.bind (gR c12 v0 11 12) fun x13 => cV 6 x13 c12 (fX6_spreads N x13 v1 c12) fun (_ : Unit) c14 => Option.bind (gR c14 v0 11 12) fun x15 => cV 6 x15 c14 (fX6_endOf N x15 v1 c14) fun r16 c17 => some (.inl r16, c17)) else (bX11_soonest_35 N  c))
set_option maxRecDepth 100000 in
theorem wX11_soonest_0 {Z : mm_Z} {X : mm_T} {k w mc ms d n N : Nat} {Q : mm_O → mm_H → Prop} (C : mm_Ok Z qX11_soonest X) (hRm : mt_R X = mm_rm d mc ms) (hd : 7 ≤ d) (hn : n + 1 < 1000000) (hk : k + 1 ≤ mc) (hw : w + 6 ≤ ms) {v0 : Nat} {v1 : Int32} {c : mm_C} (hf : hO 0 ovI n (bX11_soonest_0 N  v0 v1 c) Q) : mG Z qX11_soonest X k w mc ms Q (0, [(0, .ref v0), (1, .int v1)], [], (n, c)) := by
  unfold bX11_soonest_0 at hf
  refine mg_iconst (v := 1) C rfl (by decide) ?_
  refine mg_aload_n C rfl rfl ?_
  refine mh_gR C rfl rfl rfl (by decide) hf (fun x1 hf => ?_)
  refine mh_gI C rfl rfl rfl (by decide) hf (fun x2 hf => ?_)
  refine mg_ishl C rfl ?_
  refine mg_iconst (v := 1) C rfl (by decide) ?_
  refine mg_isub C rfl ?_
  refine mg_istore_n (lv' := [(0, .ref v0), (1, .int v1), (2, .int (((1 : Int32) <<< (x2 &&& 31)) - (1 : Int32)))]) C rfl (Nat.le_of_ble_eq_true rfl) rfl ?_
  refine mg_iload_n C rfl rfl ?_
  refine mg_iload_n C rfl rfl ?_
  refine mg_iconst (v := (-1)) C rfl (by decide) ?_
  refine mg_ixor C rfl ?_
  refine mg_iand C rfl ?_
  refine mh_if_ne C rfl hf (fun e_17 hf => ?_) (fun e_17 hf => ?_)
  · refine mg_sub (lv' := []) (by simp) ?_
    exact wX11_soonest_35 C hRm hd hn hk hw hf
  · refine mg_iload_n C rfl rfl ?_
    refine mg_aload_n C rfl rfl ?_
    refine mh_gR C rfl rfl rfl (by decide) hf (fun x3 hf => ?_)
    refine mh_gR C rfl rfl rfl (by decide) hf (fun x4 hf => ?_)
    refine mh_gI C rfl rfl rfl (by decide) hf (fun x5 hf => ?_)
    refine mg_iand C rfl ?_
    refine mh_if_eq C rfl hf (fun e_32 hf => ?_) (fun e_32 hf => ?_)
    · refine mg_aload_n C rfl rfl ?_
      refine mh_gR C rfl rfl rfl (by decide) hf (fun x6 hf => ?_)
      refine mg_aload_n C rfl rfl ?_
      refine mh_gR C rfl rfl rfl (by decide) hf (fun x7 hf => ?_)
      refine mg_aload_n C rfl rfl ?_
      refine mh_gR C rfl rfl rfl (by decide) hf (fun x8 hf => ?_)
      refine mh_gR C rfl rfl rfl (by decide) hf (fun x9 hf => ?_)
      refine mg_aload_n C rfl rfl ?_
      refine mh_gR C rfl rfl rfl (by decide) hf (fun x10 hf => ?_)
      refine mh_gI C rfl rfl rfl (by decide) hf (fun x11 hf => ?_)
      refine mh_cVU (M' := qX6_prepares) C rfl rfl aX6_prepares iX6_prepares sX6_prepares hRm (by omega) (by decide) (by omega) (by omega) rfl rfl rfl (Nat.le_of_ble_eq_true rfl) rfl hf (fun hs => wX6_prepares (by omega) (by omega) hs) (fun c12 hf => ?_)
      refine mg_aload_n C rfl rfl ?_
      refine mh_gR C rfl rfl rfl (by decide) hf (fun x13 hf => ?_)
      refine mg_iload_n C rfl rfl ?_
      refine mh_cVU (M' := qX6_spreads) C rfl rfl aX6_spreads iX6_spreads sX6_spreads hRm (by omega) (by decide) (by omega) (by omega) rfl rfl rfl (Nat.le_of_ble_eq_true rfl) rfl hf (fun hs => wX6_spreads (by omega) (by omega) hs) (fun c14 hf => ?_)
      refine mg_aload_n C rfl rfl ?_
      refine mh_gR C rfl rfl rfl (by decide) hf (fun x15 hf => ?_)
      refine mg_iload_n C rfl rfl ?_
      refine mh_cVI (M' := qX6_endOf) C rfl rfl aX6_endOf iX6_endOf sX6_endOf hRm (by omega) (by decide) (by omega) (by omega) rfl rfl rfl (Nat.le_of_ble_eq_true rfl) rfl hf (fun hs => wX6_endOf (by omega) (by omega) hs) (fun r16 c17 hf => ?_)
      exact mh_ireturn C rfl (by omega) (by omega) rfl hf
    · refine mg_sub (lv' := []) (by simp) ?_
      exact wX11_soonest_35 C hRm hd hn hk hw hf
def fX11_soonest (N : Nat) (v0 : Nat) (v1 : Int32) (c : mm_C) : mR Int32 := bX11_soonest_0 N v0 v1 c
set_option maxRecDepth 100000 in
theorem wX11_soonest {Z : mm_Z} {d n N : Nat} (hd : 7 ≤ d) (hn : n + 1 < 1000000) {v0 : Nat} {v1 : Int32} {c : mm_C} (hs : (fX11_soonest N v0 v1 c).isSome = true) : mC Z qX11_soonest d 1 6 [.ref v0, .int v1] (n, c) (mP 0 ovI n (fX11_soonest N v0 v1 c)) := by
  refine mC_of gX11_soonest (by decide +kernel) (Nat.le_of_ble_eq_true rfl) fun X C hRm => ?_
  have hf := hO_mP 0 ovI n hs
  have hk : 0 + 1 ≤ 1 := Nat.le_of_ble_eq_true rfl
  have hw : 0 + 6 ≤ 6 := Nat.le_of_ble_eq_true rfl
  show mG _ _ _ _ _ _ _ _ (0, [(0, .ref v0), (1, .int v1)], [], (n, c))
  exact wX11_soonest_0 C hRm hd hn hk hw hf
def bX11_inside_0 (N : Nat)  (v0 : Nat) (c : mm_C) : mR Int32 :=
  Option.bind (gR c v0 11 6) fun x1 => Option.bind (gR c x1 5 0) fun x2 => Option.bind (gR c v0 11 3) fun x3 => cV 3 x3 c (fX3_shotsAt N x3 (1 : Int32) c) fun r4 c5 => Option.bind (gI c5 x2 9 2) fun x6 => Option.bind (gI c5 x2 9 1) fun x7 => if x7 = (1 : Int32) then (some (.inl (-1 : Int32), c5)) else (if ¬ (r4 &&& (x6 ^^^ (-1 : Int32))) = 0 then (Option.bind (gR c5 v0 11 12) fun x8 => Option.bind (gR c5 v0 11 3) fun x9 => Option.bind (gR c5 v0 11 3) fun x10 => Option.bind (gI c5 x10 3 0) fun x11 => cV 6 x8 c5 (fX6_prepares N x8 x9 x2 x11 c5) fun (_ : Unit) c12 => Option.bind (gR c12 v0 11 12) fun x13 => Option.bind (gR c12 v0 11 3) fun x14 => Option.bind (gI c12 x14 3 0) fun x15 => cV 6 x13 c12 (fX6_latestFor N x13 (r4 &&& (x6 ^^^ (-1 : Int32))) (1 : Int32) x15 c12) fun r16 c17 => if r16 = (-1 : Int32) then (some (.inl (-1 : Int32), c17)) else (Option.bind (gR c17 v0 11 3) fun x18 => Option.bind (gI c17 x18 3 1) fun x19 => Option.bind (gI c17 x2 9 0) fun x20 => if x20 ≤ (r16 - x19) then (Option.bind (gR c17 v0 11 3) fun x21 => Option.bind (gI c17 x21 3 1) fun x22 => some (.inl (r16 - x22), c17)) else (some (.inl (-1 : Int32), c17)))) else (some (.inl (-1 : Int32), c5)))
set_option maxRecDepth 100000 in
theorem wX11_inside_0 {Z : mm_Z} {X : mm_T} {k w mc ms d n N : Nat} {Q : mm_O → mm_H → Prop} (C : mm_Ok Z qX11_inside X) (hRm : mt_R X = mm_rm d mc ms) (hd : 6 ≤ d) (hn : n + 1 < 1000000) (hk : k + 1 ≤ mc) (hw : w + 6 ≤ ms) {v0 : Nat} {c : mm_C} (hf : hO 0 ovI n (bX11_inside_0 N  v0 c) Q) : mG Z qX11_inside X k w mc ms Q (0, [(0, .ref v0)], [], (n, c)) := by
  unfold bX11_inside_0 at hf
  refine mg_aload_n C rfl rfl ?_
  refine mh_gR C rfl rfl rfl (by decide) hf (fun x1 hf => ?_)
  refine mh_gR C rfl rfl rfl (by decide) hf (fun x2 hf => ?_)
  refine mg_astore_n (lv' := [(0, .ref v0), (1, .ref x2)]) C rfl (Nat.le_of_ble_eq_true rfl) rfl ?_
  refine mg_aload_n C rfl rfl ?_
  refine mh_gR C rfl rfl rfl (by decide) hf (fun x3 hf => ?_)
  refine mg_iconst (v := 1) C rfl (by decide) ?_
  refine mh_cVI (M' := qX3_shotsAt) C rfl rfl aX3_shotsAt iX3_shotsAt sX3_shotsAt hRm (by omega) (by decide) (by omega) (by omega) rfl rfl rfl (Nat.le_of_ble_eq_true rfl) rfl hf (fun hs => wX3_shotsAt (by omega) (by omega) hs) (fun r4 c5 hf => ?_)
  refine mg_aload_n C rfl rfl ?_
  refine mh_gI C rfl rfl rfl (by decide) hf (fun x6 hf => ?_)
  refine mg_iconst (v := (-1)) C rfl (by decide) ?_
  refine mg_ixor C rfl ?_
  refine mg_iand C rfl ?_
  refine mg_istore_n (lv' := [(0, .ref v0), (1, .ref x2), (2, .int (r4 &&& (x6 ^^^ (-1 : Int32))))]) C rfl (Nat.le_of_ble_eq_true rfl) rfl ?_
  refine mg_aload_n C rfl rfl ?_
  refine mh_gI C rfl rfl rfl (by decide) hf (fun x7 hf => ?_)
  refine mg_iconst (v := 1) C rfl (by decide) ?_
  refine mh_icmp_eq C rfl hf (fun e_29 hf => ?_) (fun e_29 hf => ?_)
  · refine mg_iconst (v := (-1)) C rfl (by decide) ?_
    exact mh_ireturn C rfl (by omega) (by omega) rfl hf
  · refine mg_iload_n C rfl rfl ?_
    refine mh_if_ne C rfl hf (fun e_33 hf => ?_) (fun e_33 hf => ?_)
    · refine mg_aload_n C rfl rfl ?_
      refine mh_gR C rfl rfl rfl (by decide) hf (fun x8 hf => ?_)
      refine mg_aload_n C rfl rfl ?_
      refine mh_gR C rfl rfl rfl (by decide) hf (fun x9 hf => ?_)
      refine mg_aload_n C rfl rfl ?_
      refine mg_aload_n C rfl rfl ?_
      refine mh_gR C rfl rfl rfl (by decide) hf (fun x10 hf => ?_)
      refine mh_gI C rfl rfl rfl (by decide) hf (fun x11 hf => ?_)
      refine mh_cVU (M' := qX6_prepares) C rfl rfl aX6_prepares iX6_prepares sX6_prepares hRm (by omega) (by decide) (by omega) (by omega) rfl rfl rfl (Nat.le_of_ble_eq_true rfl) rfl hf (fun hs => wX6_prepares (by omega) (by omega) hs) (fun c12 hf => ?_)
      refine mg_aload_n C rfl rfl ?_
      refine mh_gR C rfl rfl rfl (by decide) hf (fun x13 hf => ?_)
      refine mg_iload_n C rfl rfl ?_
      refine mg_iconst (v := 1) C rfl (by decide) ?_
      refine mg_aload_n C rfl rfl ?_
      refine mh_gR C rfl rfl rfl (by decide) hf (fun x14 hf => ?_)
      refine mh_gI C rfl rfl rfl (by decide) hf (fun x15 hf => ?_)
      refine mh_cVI (M' := qX6_latestFor) C rfl rfl aX6_latestFor iX6_latestFor sX6_latestFor hRm (by omega) (by decide) (by omega) (by omega) rfl rfl rfl (Nat.le_of_ble_eq_true rfl) rfl hf (fun hs => wX6_latestFor (by omega) (by omega) hs) (fun r16 c17 hf => ?_)
      refine mg_istore_n (lv' := [(0, .ref v0), (1, .ref x2), (2, .int (r4 &&& (x6 ^^^ (-1 : Int32)))), (3, .int r16)]) C rfl (Nat.le_of_ble_eq_true rfl) rfl ?_
      refine mg_iload_n C rfl rfl ?_
      refine mg_iconst (v := (-1)) C rfl (by decide) ?_
      refine mh_icmp_eq C rfl hf (fun e_76 hf => ?_) (fun e_76 hf => ?_)
      · refine mg_iconst (v := (-1)) C rfl (by decide) ?_
        exact mh_ireturn C rfl (by omega) (by omega) rfl hf
      · refine mg_iload_n C rfl rfl ?_
        refine mg_aload_n C rfl rfl ?_
        refine mh_gR C rfl rfl rfl (by decide) hf (fun x18 hf => ?_)
        refine mh_gI C rfl rfl rfl (by decide) hf (fun x19 hf => ?_)
        refine mg_isub C rfl ?_
        refine mg_aload_n C rfl rfl ?_
        refine mh_gI C rfl rfl rfl (by decide) hf (fun x20 hf => ?_)
        refine mh_icmp_ge C rfl hf (fun e_92 hf => ?_) (fun e_92 hf => ?_)
        · refine mg_iload_n C rfl rfl ?_
          refine mg_aload_n C rfl rfl ?_
          refine mh_gR C rfl rfl rfl (by decide) hf (fun x21 hf => ?_)
          refine mh_gI C rfl rfl rfl (by decide) hf (fun x22 hf => ?_)
          refine mg_isub C rfl ?_
          exact mh_ireturn C rfl (by omega) (by omega) rfl hf
        · refine mg_iconst (v := (-1)) C rfl (by decide) ?_
          exact mh_ireturn C rfl (by omega) (by omega) rfl hf
    · refine mg_iconst (v := (-1)) C rfl (by decide) ?_
      exact mh_ireturn C rfl (by omega) (by omega) rfl hf
def fX11_inside (N : Nat) (v0 : Nat) (c : mm_C) : mR Int32 := bX11_inside_0 N v0 c
set_option maxRecDepth 100000 in
theorem wX11_inside {Z : mm_Z} {d n N : Nat} (hd : 6 ≤ d) (hn : n + 1 < 1000000) {v0 : Nat} {c : mm_C} (hs : (fX11_inside N v0 c).isSome = true) : mC Z qX11_inside d 1 6 [.ref v0] (n, c) (mP 0 ovI n (fX11_inside N v0 c)) := by
  refine mC_of gX11_inside (by decide +kernel) (Nat.le_of_ble_eq_true rfl) fun X C hRm => ?_
  have hf := hO_mP 0 ovI n hs
  have hk : 0 + 1 ≤ 1 := Nat.le_of_ble_eq_true rfl
  have hw : 0 + 6 ≤ 6 := Nat.le_of_ble_eq_true rfl
  show mG _ _ _ _ _ _ _ _ (0, [(0, .ref v0)], [], (n, c))
  exact wX11_inside_0 C hRm hd hn hk hw hf
def bX11_worth_0 (N : Nat)  (v0 : Nat) (v1 : Int32) (c : mm_C) : mR Int32 :=
  cS (fX11_requireWhat N v1 (1 : Int32) c) fun (_ : Unit) c1 => Option.bind (gR c1 v0 11 9) fun x2 => Option.bind (gR c1 v0 11 6) fun x3 => Option.bind (gR c1 x3 5 0) fun x4 => cV 9 x2 c1 (fX9_copyFrom N x2 x4 c1) fun (_ : Unit) c5 => Option.bind (gR c5 v0 11 9) fun x6 => cV 9 x6 c5 (fX9_putOn N x6 v1 (1 : Int32) c5) fun (_ : Unit) c7 => Option.bind (gR c7 v0 11 9) fun x8 => Option.bind (gR c7 v0 11 3) fun x9 => Option.bind (gI c7 x9 3 0) fun x10 => cV 11 v0 c7 (fX11_findMost N v0 x8 x10 c7) fun (_ : Unit) c11 => Option.bind (gR c11 v0 11 12) fun x12 => Option.bind (gI c11 x12 6 1) fun x13 => Option.bind (gR c11 v0 11 9) fun x14 => cV 9 x14 c11 (fX9_putOn N x14 v1 (0 : Int32) c11) fun (_ : Unit) c15 => Option.bind (gR c15 v0 11 9) fun x16 => Option.bind (gR c15 v0 11 3) fun x17 => Option.bind (gI c15 x17 3 0) fun x18 => cV 11 v0 c15 (fX11_findMost N v0 x16 x18 c15) fun (_ : Unit) c19 => Option.bind (gR c19 v0 11 12) fun x20 => Option.bind (gI c19 x20 6 1) fun x21 => some (.inl (x13 - x21), c19)
set_option maxRecDepth 100000 in
theorem wX11_worth_0 {Z : mm_Z} {X : mm_T} {k w mc ms d n N : Nat} {Q : mm_O → mm_H → Prop} (C : mm_Ok Z qX11_worth X) (hRm : mt_R X = mm_rm d mc ms) (hd : 8 ≤ d) (hn : n + 1 < 1000000) (hk : k + 1 ≤ mc) (hw : w + 6 ≤ ms) {v0 : Nat} {v1 : Int32} {c : mm_C} (hf : hO 0 ovI n (bX11_worth_0 N  v0 v1 c) Q) : mG Z qX11_worth X k w mc ms Q (0, [(0, .ref v0), (1, .int v1)], [], (n, c)) := by
  unfold bX11_worth_0 at hf
  refine mg_iload_n C rfl rfl ?_
  refine mg_iconst (v := 1) C rfl (by decide) ?_
  refine mh_cSU (M' := qX11_requireWhat) C rfl rfl aX11_requireWhat tX11_requireWhat hRm (by omega) (by decide) (by omega) (by omega) rfl rfl (Nat.le_of_ble_eq_true rfl) rfl hf (fun hs => wX11_requireWhat (by omega) (by omega) hs) (fun c1 hf => ?_)
  refine mg_aload_n C rfl rfl ?_
  refine mh_gR C rfl rfl rfl (by decide) hf (fun x2 hf => ?_)
  refine mg_aload_n C rfl rfl ?_
  refine mh_gR C rfl rfl rfl (by decide) hf (fun x3 hf => ?_)
  refine mh_gR C rfl rfl rfl (by decide) hf (fun x4 hf => ?_)
  refine mh_cVU (M' := qX9_copyFrom) C rfl rfl aX9_copyFrom iX9_copyFrom sX9_copyFrom hRm (by omega) (by decide) (by omega) (by omega) rfl rfl rfl (Nat.le_of_ble_eq_true rfl) rfl hf (fun hs => wX9_copyFrom (by omega) (by omega) hs) (fun c5 hf => ?_)
  refine mg_aload_n C rfl rfl ?_
  refine mh_gR C rfl rfl rfl (by decide) hf (fun x6 hf => ?_)
  refine mg_iload_n C rfl rfl ?_
  refine mg_iconst (v := 1) C rfl (by decide) ?_
  refine mh_cVU (M' := qX9_putOn) C rfl rfl aX9_putOn iX9_putOn sX9_putOn hRm (by omega) (by decide) (by omega) (by omega) rfl rfl rfl (Nat.le_of_ble_eq_true rfl) rfl hf (fun hs => wX9_putOn (by omega) (by omega) hs) (fun c7 hf => ?_)
  refine mg_aload_n C rfl rfl ?_
  refine mg_aload_n C rfl rfl ?_
  refine mh_gR C rfl rfl rfl (by decide) hf (fun x8 hf => ?_)
  refine mg_aload_n C rfl rfl ?_
  refine mh_gR C rfl rfl rfl (by decide) hf (fun x9 hf => ?_)
  refine mh_gI C rfl rfl rfl (by decide) hf (fun x10 hf => ?_)
  refine mh_cVU (M' := qX11_findMost) C rfl rfl aX11_findMost iX11_findMost sX11_findMost hRm (by omega) (by decide) (by omega) (by omega) rfl rfl rfl (Nat.le_of_ble_eq_true rfl) rfl hf (fun hs => wX11_findMost (by omega) (by omega) hs) (fun c11 hf => ?_)
  refine mg_aload_n C rfl rfl ?_
  refine mh_gR C rfl rfl rfl (by decide) hf (fun x12 hf => ?_)
  refine mh_gI C rfl rfl rfl (by decide) hf (fun x13 hf => ?_)
  refine mg_istore_n (lv' := [(0, .ref v0), (1, .int v1), (2, .int x13)]) C rfl (Nat.le_of_ble_eq_true rfl) rfl ?_
  refine mg_aload_n C rfl rfl ?_
  refine mh_gR C rfl rfl rfl (by decide) hf (fun x14 hf => ?_)
  refine mg_iload_n C rfl rfl ?_
  refine mg_iconst (v := 0) C rfl (by decide) ?_
  refine mh_cVU (M' := qX9_putOn) C rfl rfl aX9_putOn iX9_putOn sX9_putOn hRm (by omega) (by decide) (by omega) (by omega) rfl rfl rfl (Nat.le_of_ble_eq_true rfl) rfl hf (fun hs => wX9_putOn (by omega) (by omega) hs) (fun c15 hf => ?_)
  refine mg_aload_n C rfl rfl ?_
  refine mg_aload_n C rfl rfl ?_
  refine mh_gR C rfl rfl rfl (by decide) hf (fun x16 hf => ?_)
  refine mg_aload_n C rfl rfl ?_
  refine mh_gR C rfl rfl rfl (by decide) hf (fun x17 hf => ?_)
  refine mh_gI C rfl rfl rfl (by decide) hf (fun x18 hf => ?_)
  refine mh_cVU (M' := qX11_findMost) C rfl rfl aX11_findMost iX11_findMost sX11_findMost hRm (by omega) (by decide) (by omega) (by omega) rfl rfl rfl (Nat.le_of_ble_eq_true rfl) rfl hf (fun hs => wX11_findMost (by omega) (by omega) hs) (fun c19 hf => ?_)
  refine mg_iload_n C rfl rfl ?_
  refine mg_aload_n C rfl rfl ?_
  refine mh_gR C rfl rfl rfl (by decide) hf (fun x20 hf => ?_)
  refine mh_gI C rfl rfl rfl (by decide) hf (fun x21 hf => ?_)
  refine mg_isub C rfl ?_
  exact mh_ireturn C rfl (by omega) (by omega) rfl hf
def fX11_worth (N : Nat) (v0 : Nat) (v1 : Int32) (c : mm_C) : mR Int32 := bX11_worth_0 N v0 v1 c
set_option maxRecDepth 100000 in
theorem wX11_worth {Z : mm_Z} {d n N : Nat} (hd : 8 ≤ d) (hn : n + 1 < 1000000) {v0 : Nat} {v1 : Int32} {c : mm_C} (hs : (fX11_worth N v0 v1 c).isSome = true) : mC Z qX11_worth d 1 6 [.ref v0, .int v1] (n, c) (mP 0 ovI n (fX11_worth N v0 v1 c)) := by
  refine mC_of gX11_worth (by decide +kernel) (Nat.le_of_ble_eq_true rfl) fun X C hRm => ?_
  have hf := hO_mP 0 ovI n hs
  have hk : 0 + 1 ≤ 1 := Nat.le_of_ble_eq_true rfl
  have hw : 0 + 6 ≤ 6 := Nat.le_of_ble_eq_true rfl
  show mG _ _ _ _ _ _ _ _ (0, [(0, .ref v0), (1, .int v1)], [], (n, c))
  exact wX11_worth_0 C hRm hd hn hk hw hf
def bX11_chances_83 (N : Nat)  (v2 : Int32) (v3 : Int32) (v4 : Int32) (c : mm_C) : mR Int32 :=
  if ¬ v2 = 0 then (some (.inl v4, c)) else (some (.inl v3, c))
set_option maxRecDepth 100000 in
theorem wX11_chances_83 {Z : mm_Z} {X : mm_T} {k w mc ms d n N : Nat} {Q : mm_O → mm_H → Prop} (C : mm_Ok Z qX11_chances X) (hRm : mt_R X = mm_rm d mc ms) (hd : 8 ≤ d) (hn : n + 1 < 1000000) (hk : k + 1 ≤ mc) (hw : w + 6 ≤ ms) {v2 : Int32} {v3 : Int32} {v4 : Int32} {c : mm_C} (hf : hO 0 ovI n (bX11_chances_83 N  v2 v3 v4 c) Q) : mG Z qX11_chances X k w mc ms Q (83, [(2, .int v2), (3, .int v3), (4, .int v4)], [], (n, c)) := by
  unfold bX11_chances_83 at hf
  refine mg_iload_n C rfl rfl ?_
  refine mh_if_ne C rfl hf (fun e_84 hf => ?_) (fun e_84 hf => ?_)
  · refine mg_iload C rfl rfl ?_
    exact mh_ireturn C rfl (by omega) (by omega) rfl hf
  · refine mg_iload_n C rfl rfl ?_
    refine mg_goto C rfl ?_
    exact mh_ireturn C rfl (by omega) (by omega) rfl hf
def bX11_chances_77 (N : Nat)  (k31 : Nat → Int32 → Int32 → Int32 → Int32 → Int32 → mm_C → mR Int32) (v0 : Nat) (v1 : Int32) (v2 : Int32) (v3 : Int32) (v4 : Int32) (v5 : Int32) (c : mm_C) : mR Int32 :=
  k31 v0 v1 v2 v3 v4 (v5 + 1) c
set_option maxRecDepth 100000 in
theorem wX11_chances_77 {Z : mm_Z} {X : mm_T} {k w mc ms d n N : Nat} {Q : mm_O → mm_H → Prop} (C : mm_Ok Z qX11_chances X) (hRm : mt_R X = mm_rm d mc ms) (hd : 8 ≤ d) (hn : n + 1 < 1000000) (hk : k + 1 ≤ mc) (hw : w + 6 ≤ ms) {k31 : Nat → Int32 → Int32 → Int32 → Int32 → Int32 → mm_C → mR Int32} (hk31 : ∀ (v0 : Nat) (v1 : Int32) (v2 : Int32) (v3 : Int32) (v4 : Int32) (v5 : Int32) (c : mm_C), hO 0 ovI n (k31 v0 v1 v2 v3 v4 v5 c) Q → mG Z qX11_chances X k w mc ms Q (31, [(0, .ref v0), (1, .int v1), (2, .int v2), (3, .int v3), (4, .int v4), (5, .int v5)], [], (n, c))) {v0 : Nat} {v1 : Int32} {v2 : Int32} {v3 : Int32} {v4 : Int32} {v5 : Int32} {c : mm_C} (hf : hO 0 ovI n (bX11_chances_77 N  k31 v0 v1 v2 v3 v4 v5 c) Q) : mG Z qX11_chances X k w mc ms Q (77, [(0, .ref v0), (1, .int v1), (2, .int v2), (3, .int v3), (4, .int v4), (5, .int v5)], [], (n, c)) := by
  unfold bX11_chances_77 at hf
  refine mg_iinc (lv' := [(0, .ref v0), (1, .int v1), (2, .int v2), (3, .int v3), (4, .int v4), (5, .int (v5 + 1))]) C rfl (Nat.le_of_ble_eq_true rfl) rfl (show _ + Int32.ofInt 1 = _ + 1 by congr 1) rfl ?_
  refine mg_goto C rfl ?_
  exact hk31 _ _ _ _ _ _ _ hf
def bX11_chances_31 (N : Nat)  (k31 : Nat → Int32 → Int32 → Int32 → Int32 → Int32 → mm_C → mR Int32) (v0 : Nat) (v1 : Int32) (v2 : Int32) (v3 : Int32) (v4 : Int32) (v5 : Int32) (c : mm_C) : mR Int32 :=
  Option.bind (gR c v0 11 3) fun x1 => Option.bind (gI c x1 3 0) fun x2 => if x2 ≤ v5 then (bX11_chances_83 N  v2 v3 v4 c) else (Option.bind (gR c v0 11 10) fun x3 => Option.bind (gR c v0 11 3) fun x4 => Option.bind (gR c x4 3 6) fun x5 => Option.bind (aR (.object "CloudTakes$Shot") c x5 v1) fun x6 => cV 1 x3 c (fX1_wouldBeHad N x3 x6 v5 c) fun r7 c8 => if r7 = 0 then (bX11_chances_77 N  k31 v0 v1 v2 v3 v4 v5 c8) else (if ¬ v4 = (-1 : Int32) then (bX11_chances_77 N  k31 v0 v1 v2 (v3 + 1) v4 v5 c8) else (bX11_chances_77 N  k31 v0 v1 v2 (v3 + 1) v5 v5 c8)))
set_option maxRecDepth 100000 in
theorem wX11_chances_31 {Z : mm_Z} {X : mm_T} {k w mc ms d n N : Nat} {Q : mm_O → mm_H → Prop} (C : mm_Ok Z qX11_chances X) (hRm : mt_R X = mm_rm d mc ms) (hd : 8 ≤ d) (hn : n + 1 < 1000000) (hk : k + 1 ≤ mc) (hw : w + 6 ≤ ms) {k31 : Nat → Int32 → Int32 → Int32 → Int32 → Int32 → mm_C → mR Int32} (hk31 : ∀ (v0 : Nat) (v1 : Int32) (v2 : Int32) (v3 : Int32) (v4 : Int32) (v5 : Int32) (c : mm_C), hO 0 ovI n (k31 v0 v1 v2 v3 v4 v5 c) Q → mG Z qX11_chances X k w mc ms Q (31, [(0, .ref v0), (1, .int v1), (2, .int v2), (3, .int v3), (4, .int v4), (5, .int v5)], [], (n, c))) {v0 : Nat} {v1 : Int32} {v2 : Int32} {v3 : Int32} {v4 : Int32} {v5 : Int32} {c : mm_C} (hf : hO 0 ovI n (bX11_chances_31 N  k31 v0 v1 v2 v3 v4 v5 c) Q) : mG Z qX11_chances X k w mc ms Q (31, [(0, .ref v0), (1, .int v1), (2, .int v2), (3, .int v3), (4, .int v4), (5, .int v5)], [], (n, c)) := by
  unfold bX11_chances_31 at hf
  refine mg_iload C rfl rfl ?_
  refine mg_aload_n C rfl rfl ?_
  refine mh_gR C rfl rfl rfl (by decide) hf (fun x1 hf => ?_)
  refine mh_gI C rfl rfl rfl (by decide) hf (fun x2 hf => ?_)
  refine mh_icmp_ge C rfl hf (fun e_40 hf => ?_) (fun e_40 hf => ?_)
  · refine mg_sub (lv' := [(2, .int v2), (3, .int v3), (4, .int v4)]) (by simp) ?_
    exact wX11_chances_83 C hRm hd hn hk hw hf
  · refine mg_aload_n C rfl rfl ?_
    refine mh_gR C rfl rfl rfl (by decide) hf (fun x3 hf => ?_)
    refine mg_aload_n C rfl rfl ?_
    refine mh_gR C rfl rfl rfl (by decide) hf (fun x4 hf => ?_)
    refine mh_gR C rfl rfl rfl (by decide) hf (fun x5 hf => ?_)
    refine mg_iload_n C rfl rfl ?_
    refine mh_aR (ti := 4) C rfl rfl rfl hf (fun x6 hf => ?_)
    refine mg_iload C rfl rfl ?_
    refine mh_cVI (M' := qX1_wouldBeHad) C rfl rfl aX1_wouldBeHad iX1_wouldBeHad sX1_wouldBeHad hRm (by omega) (by decide) (by omega) (by omega) rfl rfl rfl (Nat.le_of_ble_eq_true rfl) rfl hf (fun hs => wX1_wouldBeHad (by omega) (by omega) hs) (fun r7 c8 hf => ?_)
    refine mh_if_eq C rfl hf (fun e_61 hf => ?_) (fun e_61 hf => ?_)
    · exact wX11_chances_77 C hRm hd hn hk hw hk31 hf
    · refine mg_iinc (lv' := [(0, .ref v0), (1, .int v1), (2, .int v2), (3, .int (v3 + 1)), (4, .int v4), (5, .int v5)]) C rfl (Nat.le_of_ble_eq_true rfl) rfl (show _ + Int32.ofInt 1 = _ + 1 by congr 1) rfl ?_
      refine mg_iload C rfl rfl ?_
      refine mg_iconst (v := (-1)) C rfl (by decide) ?_
      refine mh_icmp_ne C rfl hf (fun e_70 hf => ?_) (fun e_70 hf => ?_)
      · exact wX11_chances_77 C hRm hd hn hk hw hk31 hf
      · refine mg_iload C rfl rfl ?_
        refine mg_istore (lv' := [(0, .ref v0), (1, .int v1), (2, .int v2), (3, .int (v3 + 1)), (4, .int v5), (5, .int v5)]) C rfl (Nat.le_of_ble_eq_true rfl) rfl ?_
        exact wX11_chances_77 C hRm hd hn hk hw hk31 hf
def lX11_chances_31 (N : Nat)  : Nat → Nat → Int32 → Int32 → Int32 → Int32 → Int32 → mm_C → mR Int32
  | 0, _, _, _, _, _, _, _ => none
  | m + 1, v0, v1, v2, v3, v4, v5, c => bX11_chances_31 N  (lX11_chances_31 N  m) v0 v1 v2 v3 v4 v5 c
theorem WX11_chances_31 {Z : mm_Z} {X : mm_T} {k w mc ms d n N : Nat} {Q : mm_O → mm_H → Prop} (C : mm_Ok Z qX11_chances X) (hRm : mt_R X = mm_rm d mc ms) (hd : 8 ≤ d) (hn : n + 1 < 1000000) (hk : k + 1 ≤ mc) (hw : w + 6 ≤ ms) : ∀ (m : Nat) {v0 : Nat} {v1 : Int32} {v2 : Int32} {v3 : Int32} {v4 : Int32} {v5 : Int32} {c : mm_C} (hf : hO 0 ovI n (lX11_chances_31 N  m v0 v1 v2 v3 v4 v5 c) Q), mG Z qX11_chances X k w mc ms Q (31, [(0, .ref v0), (1, .int v1), (2, .int v2), (3, .int v3), (4, .int v4), (5, .int v5)], [], (n, c)) := by
  intro m
  induction m with
  | zero => intro v0 v1 v2 v3 v4 v5 c hf; exact absurd hf hO_none
  | succ m ih => intro v0 v1 v2 v3 v4 v5 c hf; exact wX11_chances_31 C hRm hd hn hk hw (fun v0 v1 v2 v3 v4 v5 c hf => ih hf) hf
def bX11_chances_0 (N : Nat)  (v0 : Nat) (v1 : Int32) (v2 : Int32) (c : mm_C) : mR Int32 :=
  cV 11 v0 c (fX11_requireShot N v0 v1 c) fun (_ : Unit) c1 => cS (fX11_requireWhat N v2 (1 : Int32) c1) fun (_ : Unit) c2 => cV 11 v0 c2 (fX11_lookAround N v0 c2) fun (_ : Unit) c3 => Option.bind (gR c3 v0 11 6) fun x4 => Option.bind (gR c3 x4 5 0) fun x5 => Option.bind (gI c3 x5 9 0) fun x6 => lX11_chances_31 N  N v0 v1 v2 (0 : Int32) (-1 : Int32) x6 c3
set_option maxRecDepth 100000 in
theorem wX11_chances_0 {Z : mm_Z} {X : mm_T} {k w mc ms d n N : Nat} {Q : mm_O → mm_H → Prop} (C : mm_Ok Z qX11_chances X) (hRm : mt_R X = mm_rm d mc ms) (hd : 8 ≤ d) (hn : n + 1 < 1000000) (hk : k + 1 ≤ mc) (hw : w + 6 ≤ ms) {v0 : Nat} {v1 : Int32} {v2 : Int32} {c : mm_C} (hf : hO 0 ovI n (bX11_chances_0 N  v0 v1 v2 c) Q) : mG Z qX11_chances X k w mc ms Q (0, [(0, .ref v0), (1, .int v1), (2, .int v2)], [], (n, c)) := by
  unfold bX11_chances_0 at hf
  refine mg_aload_n C rfl rfl ?_
  refine mg_iload_n C rfl rfl ?_
  refine mh_cVU (M' := qX11_requireShot) C rfl rfl aX11_requireShot iX11_requireShot sX11_requireShot hRm (by omega) (by decide) (by omega) (by omega) rfl rfl rfl (Nat.le_of_ble_eq_true rfl) rfl hf (fun hs => wX11_requireShot (by omega) (by omega) hs) (fun c1 hf => ?_)
  refine mg_iload_n C rfl rfl ?_
  refine mg_iconst (v := 1) C rfl (by decide) ?_
  refine mh_cSU (M' := qX11_requireWhat) C rfl rfl aX11_requireWhat tX11_requireWhat hRm (by omega) (by decide) (by omega) (by omega) rfl rfl (Nat.le_of_ble_eq_true rfl) rfl hf (fun hs => wX11_requireWhat (by omega) (by omega) hs) (fun c2 hf => ?_)
  refine mg_aload_n C rfl rfl ?_
  refine mh_cVU (M' := qX11_lookAround) C rfl rfl aX11_lookAround iX11_lookAround sX11_lookAround hRm (by omega) (by decide) (by omega) (by omega) rfl rfl rfl (Nat.le_of_ble_eq_true rfl) rfl hf (fun hs => wX11_lookAround (by omega) (by omega) hs) (fun c3 hf => ?_)
  refine mg_iconst (v := 0) C rfl (by decide) ?_
  refine mg_istore_n (lv' := [(0, .ref v0), (1, .int v1), (2, .int v2), (3, .int (0 : Int32))]) C rfl (Nat.le_of_ble_eq_true rfl) rfl ?_
  refine mg_iconst (v := (-1)) C rfl (by decide) ?_
  refine mg_istore (lv' := [(0, .ref v0), (1, .int v1), (2, .int v2), (3, .int (0 : Int32)), (4, .int (-1 : Int32))]) C rfl (Nat.le_of_ble_eq_true rfl) rfl ?_
  refine mg_aload_n C rfl rfl ?_
  refine mh_gR C rfl rfl rfl (by decide) hf (fun x4 hf => ?_)
  refine mh_gR C rfl rfl rfl (by decide) hf (fun x5 hf => ?_)
  refine mh_gI C rfl rfl rfl (by decide) hf (fun x6 hf => ?_)
  refine mg_istore (lv' := [(0, .ref v0), (1, .int v1), (2, .int v2), (3, .int (0 : Int32)), (4, .int (-1 : Int32)), (5, .int x6)]) C rfl (Nat.le_of_ble_eq_true rfl) rfl ?_
  exact WX11_chances_31 C hRm hd hn hk hw N hf
def fX11_chances (N : Nat) (v0 : Nat) (v1 : Int32) (v2 : Int32) (c : mm_C) : mR Int32 := bX11_chances_0 N v0 v1 v2 c
set_option maxRecDepth 100000 in
theorem wX11_chances {Z : mm_Z} {d n N : Nat} (hd : 8 ≤ d) (hn : n + 1 < 1000000) {v0 : Nat} {v1 : Int32} {v2 : Int32} {c : mm_C} (hs : (fX11_chances N v0 v1 v2 c).isSome = true) : mC Z qX11_chances d 1 6 [.ref v0, .int v1, .int v2] (n, c) (mP 0 ovI n (fX11_chances N v0 v1 v2 c)) := by
  refine mC_of gX11_chances (by decide +kernel) (Nat.le_of_ble_eq_true rfl) fun X C hRm => ?_
  have hf := hO_mP 0 ovI n hs
  have hk : 0 + 1 ≤ 1 := Nat.le_of_ble_eq_true rfl
  have hw : 0 + 6 ≤ 6 := Nat.le_of_ble_eq_true rfl
  show mG _ _ _ _ _ _ _ _ (0, [(0, .ref v0), (1, .int v1), (2, .int v2)], [], (n, c))
  exact wX11_chances_0 C hRm hd hn hk hw hf
def bX11_without_0 (N : Nat)  (v0 : Nat) (v1 : Int32) (c : mm_C) : mR Int32 :=
  cV 11 v0 c (fX11_requireShot N v0 v1 c) fun (_ : Unit) c1 => Option.bind (gR c1 v0 11 6) fun x2 => Option.bind (gR c1 x2 5 0) fun x3 => Option.bind (gR c1 v0 11 3) fun x4 => Option.bind (gI c1 x4 3 0) fun x5 => cV 11 v0 c1 (fX11_findMost N v0 x3 x5 c1) fun (_ : Unit) c6 => Option.bind (gR c6 v0 11 12) fun x7 => Option.bind (gI c6 x7 6 1) fun x8 => Option.bind (gR c6 v0 11 12) fun x9 => Option.bind (gR c6 v0 11 12) fun x10 => Option.bind (gI c6 x10 6 0) fun x11 => cV 6 x9 c6 (fX6_spreads N x9 (x11 &&& (((1 : Int32) <<< (v1 &&& 31)) ^^^ (-1 : Int32))) c6) fun (_ : Unit) c12 => Option.bind (gR c12 v0 11 12) fun x13 => cV 6 x13 c12 (fX6_picksMost N x13 c12) fun (_ : Unit) c14 => Option.bind (gR c14 v0 11 12) fun x15 => Option.bind (gI c14 x15 6 1) fun x16 => some (.inl (x8 - x16), c14)
set_option maxRecDepth 100000 in
theorem wX11_without_0 {Z : mm_Z} {X : mm_T} {k w mc ms d n N : Nat} {Q : mm_O → mm_H → Prop} (C : mm_Ok Z qX11_without X) (hRm : mt_R X = mm_rm d mc ms) (hd : 8 ≤ d) (hn : n + 1 < 1000000) (hk : k + 1 ≤ mc) (hw : w + 6 ≤ ms) {v0 : Nat} {v1 : Int32} {c : mm_C} (hf : hO 0 ovI n (bX11_without_0 N  v0 v1 c) Q) : mG Z qX11_without X k w mc ms Q (0, [(0, .ref v0), (1, .int v1)], [], (n, c)) := by
  unfold bX11_without_0 at hf
  refine mg_aload_n C rfl rfl ?_
  refine mg_iload_n C rfl rfl ?_
  refine mh_cVU (M' := qX11_requireShot) C rfl rfl aX11_requireShot iX11_requireShot sX11_requireShot hRm (by omega) (by decide) (by omega) (by omega) rfl rfl rfl (Nat.le_of_ble_eq_true rfl) rfl hf (fun hs => wX11_requireShot (by omega) (by omega) hs) (fun c1 hf => ?_)
  refine mg_aload_n C rfl rfl ?_
  refine mg_aload_n C rfl rfl ?_
  refine mh_gR C rfl rfl rfl (by decide) hf (fun x2 hf => ?_)
  refine mh_gR C rfl rfl rfl (by decide) hf (fun x3 hf => ?_)
  refine mg_aload_n C rfl rfl ?_
  refine mh_gR C rfl rfl rfl (by decide) hf (fun x4 hf => ?_)
  refine mh_gI C rfl rfl rfl (by decide) hf (fun x5 hf => ?_)
  refine mh_cVU (M' := qX11_findMost) C rfl rfl aX11_findMost iX11_findMost sX11_findMost hRm (by omega) (by decide) (by omega) (by omega) rfl rfl rfl (Nat.le_of_ble_eq_true rfl) rfl hf (fun hs => wX11_findMost (by omega) (by omega) hs) (fun c6 hf => ?_)
  refine mg_aload_n C rfl rfl ?_
  refine mh_gR C rfl rfl rfl (by decide) hf (fun x7 hf => ?_)
  refine mh_gI C rfl rfl rfl (by decide) hf (fun x8 hf => ?_)
  refine mg_istore_n (lv' := [(0, .ref v0), (1, .int v1), (2, .int x8)]) C rfl (Nat.le_of_ble_eq_true rfl) rfl ?_
  refine mg_aload_n C rfl rfl ?_
  refine mh_gR C rfl rfl rfl (by decide) hf (fun x9 hf => ?_)
  refine mg_aload_n C rfl rfl ?_
  refine mh_gR C rfl rfl rfl (by decide) hf (fun x10 hf => ?_)
  refine mh_gI C rfl rfl rfl (by decide) hf (fun x11 hf => ?_)
  refine mg_iconst (v := 1) C rfl (by decide) ?_
  refine mg_iload_n C rfl rfl ?_
  refine mg_ishl C rfl ?_
  refine mg_iconst (v := (-1)) C rfl (by decide) ?_
  refine mg_ixor C rfl ?_
  refine mg_iand C rfl ?_
  refine mh_cVU (M' := qX6_spreads) C rfl rfl aX6_spreads iX6_spreads sX6_spreads hRm (by omega) (by decide) (by omega) (by omega) rfl rfl rfl (Nat.le_of_ble_eq_true rfl) rfl hf (fun hs => wX6_spreads (by omega) (by omega) hs) (fun c12 hf => ?_)
  refine mg_aload_n C rfl rfl ?_
  refine mh_gR C rfl rfl rfl (by decide) hf (fun x13 hf => ?_)
  refine mh_cVU (M' := qX6_picksMost) C rfl rfl aX6_picksMost iX6_picksMost sX6_picksMost hRm (by omega) (by decide) (by omega) (by omega) rfl rfl rfl (Nat.le_of_ble_eq_true rfl) rfl hf (fun hs => wX6_picksMost (by omega) (by omega) hs) (fun c14 hf => ?_)
  refine mg_iload_n C rfl rfl ?_
  refine mg_aload_n C rfl rfl ?_
  refine mh_gR C rfl rfl rfl (by decide) hf (fun x15 hf => ?_)
  refine mh_gI C rfl rfl rfl (by decide) hf (fun x16 hf => ?_)
  refine mg_isub C rfl ?_
  exact mh_ireturn C rfl (by omega) (by omega) rfl hf
def fX11_without (N : Nat) (v0 : Nat) (v1 : Int32) (c : mm_C) : mR Int32 := bX11_without_0 N v0 v1 c
set_option maxRecDepth 100000 in
theorem wX11_without {Z : mm_Z} {d n N : Nat} (hd : 8 ≤ d) (hn : n + 1 < 1000000) {v0 : Nat} {v1 : Int32} {c : mm_C} (hs : (fX11_without N v0 v1 c).isSome = true) : mC Z qX11_without d 1 6 [.ref v0, .int v1] (n, c) (mP 0 ovI n (fX11_without N v0 v1 c)) := by
  refine mC_of gX11_without (by decide +kernel) (Nat.le_of_ble_eq_true rfl) fun X C hRm => ?_
  have hf := hO_mP 0 ovI n hs
  have hk : 0 + 1 ≤ 1 := Nat.le_of_ble_eq_true rfl
  have hw : 0 + 6 ≤ 6 := Nat.le_of_ble_eq_true rfl
  show mG _ _ _ _ _ _ _ _ (0, [(0, .ref v0), (1, .int v1)], [], (n, c))
  exact wX11_without_0 C hRm hd hn hk hw hf
def bX11_shorter_11 (N : Nat)   (c : mm_C) : mR Int32 :=
  some (.inr 0, c)
set_option maxRecDepth 100000 in
theorem wX11_shorter_11 {Z : mm_Z} {X : mm_T} {k w mc ms d n N : Nat} {Q : mm_O → mm_H → Prop} (C : mm_Ok Z qX11_shorter X) (hRm : mt_R X = mm_rm d mc ms) (hd : 7 ≤ d) (hn : n + 1 < 1000000) (hk : k + 1 ≤ mc) (hw : w + 6 ≤ ms)  {c : mm_C} (hf : hO 0 ovI n (bX11_shorter_11 N   c) Q) : mG Z qX11_shorter X k w mc ms Q (11, [], [], (n, c)) := by
  unfold bX11_shorter_11 at hf
  exact mh_throw0 C rfl rfl rfl (Or.inr rfl) rfl rfl (by decide) hRm (by omega) (by omega) (by omega) (Nat.le_of_ble_eq_true rfl) rfl (by omega) hf
def bX11_shorter_0 (N : Nat)  (v0 : Nat) (v1 : Int32) (c : mm_C) : mR Int32 :=
  if v1 < 0 then (bX11_shorter_11 N  c) else (if v1 ≤ (480 : Int32) then (Option.bind (gR c v0 11 6) fun x1 => Option.bind (gR c x1 5 0) fun x2 => Option.bind (gR c v0 11 6) fun x3 => Option.bind (gR c x3 5 0) fun x4 => Option.bind (gI c x4 9 0) fun x5 => Option.bind (gR c v0 11 3) fun x6 => Option.bind (gI c x6 3 0) fun x7 => cV 11 v0 c (fX11_findMost N v0 x2 (mxI x5 (x7 - v1)) c) fun (_ : Unit) c8 => Option.bind (gR c8 v0 11 12) fun x9 => Option.bind (gI c8 x9 6 1) fun x10 => some (.inl x10, c8)) else (bX11_shorter_11 N  c))
set_option maxRecDepth 100000 in
theorem wX11_shorter_0 {Z : mm_Z} {X : mm_T} {k w mc ms d n N : Nat} {Q : mm_O → mm_H → Prop} (C : mm_Ok Z qX11_shorter X) (hRm : mt_R X = mm_rm d mc ms) (hd : 7 ≤ d) (hn : n + 1 < 1000000) (hk : k + 1 ≤ mc) (hw : w + 6 ≤ ms) {v0 : Nat} {v1 : Int32} {c : mm_C} (hf : hO 0 ovI n (bX11_shorter_0 N  v0 v1 c) Q) : mG Z qX11_shorter X k w mc ms Q (0, [(0, .ref v0), (1, .int v1)], [], (n, c)) := by
  unfold bX11_shorter_0 at hf
  refine mg_iload_n C rfl rfl ?_
  refine mh_if_lt C rfl hf (fun e_1 hf => ?_) (fun e_1 hf => ?_)
  · refine mg_sub (lv' := []) (by simp) ?_
    exact wX11_shorter_11 C hRm hd hn hk hw hf
  · refine mg_iload_n C rfl rfl ?_
    refine mg_sipush (v := 480) C rfl (by decide) ?_
    refine mh_icmp_le C rfl hf (fun e_8 hf => ?_) (fun e_8 hf => ?_)
    · refine mg_aload_n C rfl rfl ?_
      refine mg_aload_n C rfl rfl ?_
      refine mh_gR C rfl rfl rfl (by decide) hf (fun x1 hf => ?_)
      refine mh_gR C rfl rfl rfl (by decide) hf (fun x2 hf => ?_)
      refine mg_aload_n C rfl rfl ?_
      refine mh_gR C rfl rfl rfl (by decide) hf (fun x3 hf => ?_)
      refine mh_gR C rfl rfl rfl (by decide) hf (fun x4 hf => ?_)
      refine mh_gI C rfl rfl rfl (by decide) hf (fun x5 hf => ?_)
      refine mg_aload_n C rfl rfl ?_
      refine mh_gR C rfl rfl rfl (by decide) hf (fun x6 hf => ?_)
      refine mh_gI C rfl rfl rfl (by decide) hf (fun x7 hf => ?_)
      refine mg_iload_n C rfl rfl ?_
      refine mg_isub C rfl ?_
      refine mh_mxI C rfl rfl hRm (by omega) (Nat.le_of_ble_eq_true rfl) ?_
      refine mh_cVU (M' := qX11_findMost) C rfl rfl aX11_findMost iX11_findMost sX11_findMost hRm (by omega) (by decide) (by omega) (by omega) rfl rfl rfl (Nat.le_of_ble_eq_true rfl) rfl hf (fun hs => wX11_findMost (by omega) (by omega) hs) (fun c8 hf => ?_)
      refine mg_aload_n C rfl rfl ?_
      refine mh_gR C rfl rfl rfl (by decide) hf (fun x9 hf => ?_)
      refine mh_gI C rfl rfl rfl (by decide) hf (fun x10 hf => ?_)
      exact mh_ireturn C rfl (by omega) (by omega) rfl hf
    · refine mg_sub (lv' := []) (by simp) ?_
      exact wX11_shorter_11 C hRm hd hn hk hw hf
def fX11_shorter (N : Nat) (v0 : Nat) (v1 : Int32) (c : mm_C) : mR Int32 := bX11_shorter_0 N v0 v1 c
set_option maxRecDepth 100000 in
theorem wX11_shorter {Z : mm_Z} {d n N : Nat} (hd : 7 ≤ d) (hn : n + 1 < 1000000) {v0 : Nat} {v1 : Int32} {c : mm_C} (hs : (fX11_shorter N v0 v1 c).isSome = true) : mC Z qX11_shorter d 1 6 [.ref v0, .int v1] (n, c) (mP 0 ovI n (fX11_shorter N v0 v1 c)) := by
  refine mC_of gX11_shorter (by decide +kernel) (Nat.le_of_ble_eq_true rfl) fun X C hRm => ?_
  have hf := hO_mP 0 ovI n hs
  have hk : 0 + 1 ≤ 1 := Nat.le_of_ble_eq_true rfl
  have hw : 0 + 6 ≤ 6 := Nat.le_of_ble_eq_true rfl
  show mG _ _ _ _ _ _ _ _ (0, [(0, .ref v0), (1, .int v1)], [], (n, c))
  exact wX11_shorter_0 C hRm hd hn hk hw hf
def bX11_idle_0 (N : Nat)  (v0 : Nat) (v1 : Int32) (v2 : Int32) (c : mm_C) : mR Int32 :=
  cV 11 v0 c (fX11_requireRule N v0 v1 c) fun (_ : Unit) c1 => cS (fX11_requireWhat N v2 (1 : Int32) c1) fun (_ : Unit) c2 => Option.bind (gR c2 v0 11 11) fun x3 => Option.bind (gR c2 v0 11 3) fun x4 => Option.bind (gR c2 v0 11 6) fun x5 => Option.bind (gR c2 x5 5 0) fun x6 => cV 0 x3 c2 (fX0_runs N x3 x4 x6 v1 c2) fun (_ : Unit) c7 => if ¬ v2 = 0 then (Option.bind (gR c7 v0 11 11) fun x8 => Option.bind (gI c7 x8 0 5) fun x9 => some (.inl x9, c7)) else (Option.bind (gR c7 v0 11 11) fun x10 => Option.bind (gI c7 x10 0 4) fun x11 => some (.inl x11, c7))
set_option maxRecDepth 100000 in
theorem wX11_idle_0 {Z : mm_Z} {X : mm_T} {k w mc ms d n N : Nat} {Q : mm_O → mm_H → Prop} (C : mm_Ok Z qX11_idle X) (hRm : mt_R X = mm_rm d mc ms) (hd : 8 ≤ d) (hn : n + 1 < 1000000) (hk : k + 1 ≤ mc) (hw : w + 6 ≤ ms) {v0 : Nat} {v1 : Int32} {v2 : Int32} {c : mm_C} (hf : hO 0 ovI n (bX11_idle_0 N  v0 v1 v2 c) Q) : mG Z qX11_idle X k w mc ms Q (0, [(0, .ref v0), (1, .int v1), (2, .int v2)], [], (n, c)) := by
  unfold bX11_idle_0 at hf
  refine mg_aload_n C rfl rfl ?_
  refine mg_iload_n C rfl rfl ?_
  refine mh_cVU (M' := qX11_requireRule) C rfl rfl aX11_requireRule iX11_requireRule sX11_requireRule hRm (by omega) (by decide) (by omega) (by omega) rfl rfl rfl (Nat.le_of_ble_eq_true rfl) rfl hf (fun hs => wX11_requireRule (by omega) (by omega) hs) (fun c1 hf => ?_)
  refine mg_iload_n C rfl rfl ?_
  refine mg_iconst (v := 1) C rfl (by decide) ?_
  refine mh_cSU (M' := qX11_requireWhat) C rfl rfl aX11_requireWhat tX11_requireWhat hRm (by omega) (by decide) (by omega) (by omega) rfl rfl (Nat.le_of_ble_eq_true rfl) rfl hf (fun hs => wX11_requireWhat (by omega) (by omega) hs) (fun c2 hf => ?_)
  refine mg_aload_n C rfl rfl ?_
  refine mh_gR C rfl rfl rfl (by decide) hf (fun x3 hf => ?_)
  refine mg_aload_n C rfl rfl ?_
  refine mh_gR C rfl rfl rfl (by decide) hf (fun x4 hf => ?_)
  refine mg_aload_n C rfl rfl ?_
  refine mh_gR C rfl rfl rfl (by decide) hf (fun x5 hf => ?_)
  refine mh_gR C rfl rfl rfl (by decide) hf (fun x6 hf => ?_)
  refine mg_iload_n C rfl rfl ?_
  refine mh_cVU (M' := qX0_runs) C rfl rfl aX0_runs iX0_runs sX0_runs hRm (by omega) (by decide) (by omega) (by omega) rfl rfl rfl (Nat.le_of_ble_eq_true rfl) rfl hf (fun hs => wX0_runs (by omega) (by omega) hs) (fun c7 hf => ?_)
  refine mg_iload_n C rfl rfl ?_
  refine mh_if_ne C rfl hf (fun e_30 hf => ?_) (fun e_30 hf => ?_)
  · refine mg_aload_n C rfl rfl ?_
    refine mh_gR C rfl rfl rfl (by decide) hf (fun x8 hf => ?_)
    refine mh_gI C rfl rfl rfl (by decide) hf (fun x9 hf => ?_)
    exact mh_ireturn C rfl (by omega) (by omega) rfl hf
  · refine mg_aload_n C rfl rfl ?_
    refine mh_gR C rfl rfl rfl (by decide) hf (fun x10 hf => ?_)
    refine mh_gI C rfl rfl rfl (by decide) hf (fun x11 hf => ?_)
    refine mg_goto C rfl ?_
    exact mh_ireturn C rfl (by omega) (by omega) rfl hf
def fX11_idle (N : Nat) (v0 : Nat) (v1 : Int32) (v2 : Int32) (c : mm_C) : mR Int32 := bX11_idle_0 N v0 v1 v2 c
set_option maxRecDepth 100000 in
theorem wX11_idle {Z : mm_Z} {d n N : Nat} (hd : 8 ≤ d) (hn : n + 1 < 1000000) {v0 : Nat} {v1 : Int32} {v2 : Int32} {c : mm_C} (hs : (fX11_idle N v0 v1 v2 c).isSome = true) : mC Z qX11_idle d 1 6 [.ref v0, .int v1, .int v2] (n, c) (mP 0 ovI n (fX11_idle N v0 v1 v2 c)) := by
  refine mC_of gX11_idle (by decide +kernel) (Nat.le_of_ble_eq_true rfl) fun X C hRm => ?_
  have hf := hO_mP 0 ovI n hs
  have hk : 0 + 1 ≤ 1 := Nat.le_of_ble_eq_true rfl
  have hw : 0 + 6 ≤ 6 := Nat.le_of_ble_eq_true rfl
  show mG _ _ _ _ _ _ _ _ (0, [(0, .ref v0), (1, .int v1), (2, .int v2)], [], (n, c))
  exact wX11_idle_0 C hRm hd hn hk hw hf
def bX11_regret_0 (N : Nat)  (v0 : Nat) (c : mm_C) : mR Int32 :=
  Option.bind (gR c v0 11 11) fun x1 => Option.bind (gR c v0 11 3) fun x2 => Option.bind (gR c v0 11 6) fun x3 => Option.bind (gR c x3 5 0) fun x4 => cV 11 v0 c (fX11_bestRule N v0 c) fun r5 c6 => cV 0 x1 c6 (fX0_runs N x1 x2 x4 r5 c6) fun (_ : Unit) c7 => Option.bind (gR c7 v0 11 6) fun x8 => Option.bind (gR c7 x8 5 0) fun x9 => Option.bind (gR c7 v0 11 3) fun x10 => Option.bind (gI c7 x10 3 0) fun x11 => cV 11 v0 c7 (fX11_findMost N v0 x9 x11 c7) fun (_ : Unit) c12 => Option.bind (gR c12 v0 11 12) fun x13 => Option.bind (gI c12 x13 6 1) fun x14 => Option.bind (gR c12 v0 11 11) fun x15 => Option.bind (gI c12 x15 0 0) fun x16 => cS (fJ6_bitCount_0f7a4 N x16 c12) fun r17 c18 => some (.inl (x14 - r17), c18)
set_option maxRecDepth 100000 in
theorem wX11_regret_0 {Z : mm_Z} {X : mm_T} {k w mc ms d n N : Nat} {Q : mm_O → mm_H → Prop} (C : mm_Ok Z qX11_regret X) (hRm : mt_R X = mm_rm d mc ms) (hd : 7 ≤ d) (hn : n + 1 < 1000000) (hk : k + 1 ≤ mc) (hw : w + 6 ≤ ms) {v0 : Nat} {c : mm_C} (hf : hO 0 ovI n (bX11_regret_0 N  v0 c) Q) : mG Z qX11_regret X k w mc ms Q (0, [(0, .ref v0)], [], (n, c)) := by
  unfold bX11_regret_0 at hf
  refine mg_aload_n C rfl rfl ?_
  refine mh_gR C rfl rfl rfl (by decide) hf (fun x1 hf => ?_)
  refine mg_aload_n C rfl rfl ?_
  refine mh_gR C rfl rfl rfl (by decide) hf (fun x2 hf => ?_)
  refine mg_aload_n C rfl rfl ?_
  refine mh_gR C rfl rfl rfl (by decide) hf (fun x3 hf => ?_)
  refine mh_gR C rfl rfl rfl (by decide) hf (fun x4 hf => ?_)
  refine mg_aload_n C rfl rfl ?_
  refine mh_cVI (M' := qX11_bestRule) C rfl rfl aX11_bestRule iX11_bestRule sX11_bestRule hRm (by omega) (by decide) (by omega) (by omega) rfl rfl rfl (Nat.le_of_ble_eq_true rfl) rfl hf (fun hs => wX11_bestRule (by omega) (by omega) hs) (fun r5 c6 hf => ?_)
  refine mh_cVU (M' := qX0_runs) C rfl rfl aX0_runs iX0_runs sX0_runs hRm (by omega) (by decide) (by omega) (by omega) rfl rfl rfl (Nat.le_of_ble_eq_true rfl) rfl hf (fun hs => wX0_runs (by omega) (by omega) hs) (fun c7 hf => ?_)
  refine mg_aload_n C rfl rfl ?_
  refine mg_aload_n C rfl rfl ?_
  refine mh_gR C rfl rfl rfl (by decide) hf (fun x8 hf => ?_)
  refine mh_gR C rfl rfl rfl (by decide) hf (fun x9 hf => ?_)
  refine mg_aload_n C rfl rfl ?_
  refine mh_gR C rfl rfl rfl (by decide) hf (fun x10 hf => ?_)
  refine mh_gI C rfl rfl rfl (by decide) hf (fun x11 hf => ?_)
  refine mh_cVU (M' := qX11_findMost) C rfl rfl aX11_findMost iX11_findMost sX11_findMost hRm (by omega) (by decide) (by omega) (by omega) rfl rfl rfl (Nat.le_of_ble_eq_true rfl) rfl hf (fun hs => wX11_findMost (by omega) (by omega) hs) (fun c12 hf => ?_)
  refine mg_aload_n C rfl rfl ?_
  refine mh_gR C rfl rfl rfl (by decide) hf (fun x13 hf => ?_)
  refine mh_gI C rfl rfl rfl (by decide) hf (fun x14 hf => ?_)
  refine mg_aload_n C rfl rfl ?_
  refine mh_gR C rfl rfl rfl (by decide) hf (fun x15 hf => ?_)
  refine mh_gI C rfl rfl rfl (by decide) hf (fun x16 hf => ?_)
  refine mh_cSI (M' := qJ6_bitCount_0f7a4) C rfl rfl aJ6_bitCount_0f7a4 tJ6_bitCount_0f7a4 hRm (by omega) (by decide) (by omega) (by omega) rfl rfl (Nat.le_of_ble_eq_true rfl) rfl hf (fun hs => wJ6_bitCount_0f7a4 (by omega) (by omega) hs) (fun r17 c18 hf => ?_)
  refine mg_isub C rfl ?_
  exact mh_ireturn C rfl (by omega) (by omega) rfl hf
def fX11_regret (N : Nat) (v0 : Nat) (c : mm_C) : mR Int32 := bX11_regret_0 N v0 c
set_option maxRecDepth 100000 in
theorem wX11_regret {Z : mm_Z} {d n N : Nat} (hd : 7 ≤ d) (hn : n + 1 < 1000000) {v0 : Nat} {c : mm_C} (hs : (fX11_regret N v0 c).isSome = true) : mC Z qX11_regret d 1 6 [.ref v0] (n, c) (mP 0 ovI n (fX11_regret N v0 c)) := by
  refine mC_of gX11_regret (by decide +kernel) (Nat.le_of_ble_eq_true rfl) fun X C hRm => ?_
  have hf := hO_mP 0 ovI n hs
  have hk : 0 + 1 ≤ 1 := Nat.le_of_ble_eq_true rfl
  have hw : 0 + 6 ≤ 6 := Nat.le_of_ble_eq_true rfl
  show mG _ _ _ _ _ _ _ _ (0, [(0, .ref v0)], [], (n, c))
  exact wX11_regret_0 C hRm hd hn hk hw hf
def bX11_holes_75 (N : Nat)  (v2 : Int32) (c : mm_C) : mR Int32 :=
  some (.inl v2, c)
set_option maxRecDepth 100000 in
theorem wX11_holes_75 {Z : mm_Z} {X : mm_T} {k w mc ms d n N : Nat} {Q : mm_O → mm_H → Prop} (C : mm_Ok Z qX11_holes X) (hRm : mt_R X = mm_rm d mc ms) (hd : 7 ≤ d) (hn : n + 1 < 1000000) (hk : k + 1 ≤ mc) (hw : w + 6 ≤ ms) {v2 : Int32} {c : mm_C} (hf : hO 0 ovI n (bX11_holes_75 N  v2 c) Q) : mG Z qX11_holes X k w mc ms Q (75, [(2, .int v2)], [], (n, c)) := by
  unfold bX11_holes_75 at hf
  refine mg_iload_n C rfl rfl ?_
  exact mh_ireturn C rfl (by omega) (by omega) rfl hf
def bX11_holes_69 (N : Nat)  (k31 : Nat → Int32 → Int32 → Int32 → mm_C → mR Int32) (v0 : Nat) (v1 : Int32) (v2 : Int32) (v3 : Int32) (c : mm_C) : mR Int32 :=
  k31 v0 v1 v2 (v3 + 1) c
set_option maxRecDepth 100000 in
theorem wX11_holes_69 {Z : mm_Z} {X : mm_T} {k w mc ms d n N : Nat} {Q : mm_O → mm_H → Prop} (C : mm_Ok Z qX11_holes X) (hRm : mt_R X = mm_rm d mc ms) (hd : 7 ≤ d) (hn : n + 1 < 1000000) (hk : k + 1 ≤ mc) (hw : w + 6 ≤ ms) {k31 : Nat → Int32 → Int32 → Int32 → mm_C → mR Int32} (hk31 : ∀ (v0 : Nat) (v1 : Int32) (v2 : Int32) (v3 : Int32) (c : mm_C), hO 0 ovI n (k31 v0 v1 v2 v3 c) Q → mG Z qX11_holes X k w mc ms Q (31, [(0, .ref v0), (1, .int v1), (2, .int v2), (3, .int v3)], [], (n, c))) {v0 : Nat} {v1 : Int32} {v2 : Int32} {v3 : Int32} {c : mm_C} (hf : hO 0 ovI n (bX11_holes_69 N  k31 v0 v1 v2 v3 c) Q) : mG Z qX11_holes X k w mc ms Q (69, [(0, .ref v0), (1, .int v1), (2, .int v2), (3, .int v3)], [], (n, c)) := by
  unfold bX11_holes_69 at hf
  refine mg_iinc (lv' := [(0, .ref v0), (1, .int v1), (2, .int v2), (3, .int (v3 + 1))]) C rfl (Nat.le_of_ble_eq_true rfl) rfl (show _ + Int32.ofInt 1 = _ + 1 by congr 1) rfl ?_
  refine mg_goto C rfl ?_
  exact hk31 _ _ _ _ _ hf
def bX11_holes_31 (N : Nat)  (k31 : Nat → Int32 → Int32 → Int32 → mm_C → mR Int32) (v0 : Nat) (v1 : Int32) (v2 : Int32) (v3 : Int32) (c : mm_C) : mR Int32 :=
  Option.bind (gR c v0 11 3) fun x1 => Option.bind (gI c x1 3 0) fun x2 => if x2 ≤ v3 then (bX11_holes_75 N  v2 c) else (Option.bind (gR c v0 11 10) fun x3 => cV 1 x3 c (fX1_beginsHole N x3 v3 c) fun r4 c5 => if r4 = 0 then (bX11_holes_69 N  k31 v0 v1 v2 v3 c5) else (Option.bind (gR c5 v0 11 10) fun x6 => Option.bind (gR c5 x6 1 0) fun x7 => Option.bind (aI c5 x7 v3) fun x8 => if x8 < v1 then (bX11_holes_69 N  k31 v0 v1 v2 v3 c5) else (bX11_holes_69 N  k31 v0 v1 (v2 + 1) v3 c5)))
set_option maxRecDepth 100000 in
theorem wX11_holes_31 {Z : mm_Z} {X : mm_T} {k w mc ms d n N : Nat} {Q : mm_O → mm_H → Prop} (C : mm_Ok Z qX11_holes X) (hRm : mt_R X = mm_rm d mc ms) (hd : 7 ≤ d) (hn : n + 1 < 1000000) (hk : k + 1 ≤ mc) (hw : w + 6 ≤ ms) {k31 : Nat → Int32 → Int32 → Int32 → mm_C → mR Int32} (hk31 : ∀ (v0 : Nat) (v1 : Int32) (v2 : Int32) (v3 : Int32) (c : mm_C), hO 0 ovI n (k31 v0 v1 v2 v3 c) Q → mG Z qX11_holes X k w mc ms Q (31, [(0, .ref v0), (1, .int v1), (2, .int v2), (3, .int v3)], [], (n, c))) {v0 : Nat} {v1 : Int32} {v2 : Int32} {v3 : Int32} {c : mm_C} (hf : hO 0 ovI n (bX11_holes_31 N  k31 v0 v1 v2 v3 c) Q) : mG Z qX11_holes X k w mc ms Q (31, [(0, .ref v0), (1, .int v1), (2, .int v2), (3, .int v3)], [], (n, c)) := by
  unfold bX11_holes_31 at hf
  refine mg_iload_n C rfl rfl ?_
  refine mg_aload_n C rfl rfl ?_
  refine mh_gR C rfl rfl rfl (by decide) hf (fun x1 hf => ?_)
  refine mh_gI C rfl rfl rfl (by decide) hf (fun x2 hf => ?_)
  refine mh_icmp_ge C rfl hf (fun e_39 hf => ?_) (fun e_39 hf => ?_)
  · refine mg_sub (lv' := [(2, .int v2)]) (by simp) ?_
    exact wX11_holes_75 C hRm hd hn hk hw hf
  · refine mg_aload_n C rfl rfl ?_
    refine mh_gR C rfl rfl rfl (by decide) hf (fun x3 hf => ?_)
    refine mg_iload_n C rfl rfl ?_
    refine mh_cVI (M' := qX1_beginsHole) C rfl rfl aX1_beginsHole iX1_beginsHole sX1_beginsHole hRm (by omega) (by decide) (by omega) (by omega) rfl rfl rfl (Nat.le_of_ble_eq_true rfl) rfl hf (fun hs => wX1_beginsHole (by omega) (by omega) hs) (fun r4 c5 hf => ?_)
    refine mh_if_eq C rfl hf (fun e_50 hf => ?_) (fun e_50 hf => ?_)
    · exact wX11_holes_69 C hRm hd hn hk hw hk31 hf
    · refine mg_aload_n C rfl rfl ?_
      refine mh_gR C rfl rfl rfl (by decide) hf (fun x6 hf => ?_)
      refine mh_gR C rfl rfl rfl (by decide) hf (fun x7 hf => ?_)
      refine mg_iload_n C rfl rfl ?_
      refine mh_aI C rfl hf (fun x8 hf => ?_)
      refine mg_iload_n C rfl rfl ?_
      refine mh_icmp_lt C rfl hf (fun e_63 hf => ?_) (fun e_63 hf => ?_)
      · exact wX11_holes_69 C hRm hd hn hk hw hk31 hf
      · refine mg_iinc (lv' := [(0, .ref v0), (1, .int v1), (2, .int (v2 + 1)), (3, .int v3)]) C rfl (Nat.le_of_ble_eq_true rfl) rfl (show _ + Int32.ofInt 1 = _ + 1 by congr 1) rfl ?_
        exact wX11_holes_69 C hRm hd hn hk hw hk31 hf
def lX11_holes_31 (N : Nat)  : Nat → Nat → Int32 → Int32 → Int32 → mm_C → mR Int32
  | 0, _, _, _, _, _ => none
  | m + 1, v0, v1, v2, v3, c => bX11_holes_31 N  (lX11_holes_31 N  m) v0 v1 v2 v3 c
theorem WX11_holes_31 {Z : mm_Z} {X : mm_T} {k w mc ms d n N : Nat} {Q : mm_O → mm_H → Prop} (C : mm_Ok Z qX11_holes X) (hRm : mt_R X = mm_rm d mc ms) (hd : 7 ≤ d) (hn : n + 1 < 1000000) (hk : k + 1 ≤ mc) (hw : w + 6 ≤ ms) : ∀ (m : Nat) {v0 : Nat} {v1 : Int32} {v2 : Int32} {v3 : Int32} {c : mm_C} (hf : hO 0 ovI n (lX11_holes_31 N  m v0 v1 v2 v3 c) Q), mG Z qX11_holes X k w mc ms Q (31, [(0, .ref v0), (1, .int v1), (2, .int v2), (3, .int v3)], [], (n, c)) := by
  intro m
  induction m with
  | zero => intro v0 v1 v2 v3 c hf; exact absurd hf hO_none
  | succ m ih => intro v0 v1 v2 v3 c hf; exact wX11_holes_31 C hRm hd hn hk hw (fun v0 v1 v2 v3 c hf => ih hf) hf
def bX11_holes_12 (N : Nat)   (c : mm_C) : mR Int32 :=
  some (.inr 0, c)
set_option maxRecDepth 100000 in
theorem wX11_holes_12 {Z : mm_Z} {X : mm_T} {k w mc ms d n N : Nat} {Q : mm_O → mm_H → Prop} (C : mm_Ok Z qX11_holes X) (hRm : mt_R X = mm_rm d mc ms) (hd : 7 ≤ d) (hn : n + 1 < 1000000) (hk : k + 1 ≤ mc) (hw : w + 6 ≤ ms)  {c : mm_C} (hf : hO 0 ovI n (bX11_holes_12 N   c) Q) : mG Z qX11_holes X k w mc ms Q (12, [], [], (n, c)) := by
  unfold bX11_holes_12 at hf
  exact mh_throw0 C rfl rfl rfl (Or.inr rfl) rfl rfl (by decide) hRm (by omega) (by omega) (by omega) (Nat.le_of_ble_eq_true rfl) rfl (by omega) hf
def bX11_holes_0 (N : Nat)  (v0 : Nat) (v1 : Int32) (c : mm_C) : mR Int32 :=
  if v1 < (1 : Int32) then (bX11_holes_12 N  c) else (if v1 ≤ (480 : Int32) then (cV 11 v0 c (fX11_lookAround N v0 c) fun (_ : Unit) c1 => lX11_holes_31 N  N v0 v1 (0 : Int32) (0 : Int32) c1) else (bX11_holes_12 N  c))
set_option maxRecDepth 100000 in
theorem wX11_holes_0 {Z : mm_Z} {X : mm_T} {k w mc ms d n N : Nat} {Q : mm_O → mm_H → Prop} (C : mm_Ok Z qX11_holes X) (hRm : mt_R X = mm_rm d mc ms) (hd : 7 ≤ d) (hn : n + 1 < 1000000) (hk : k + 1 ≤ mc) (hw : w + 6 ≤ ms) {v0 : Nat} {v1 : Int32} {c : mm_C} (hf : hO 0 ovI n (bX11_holes_0 N  v0 v1 c) Q) : mG Z qX11_holes X k w mc ms Q (0, [(0, .ref v0), (1, .int v1)], [], (n, c)) := by
  unfold bX11_holes_0 at hf
  refine mg_iload_n C rfl rfl ?_
  refine mg_iconst (v := 1) C rfl (by decide) ?_
  refine mh_icmp_lt C rfl hf (fun e_2 hf => ?_) (fun e_2 hf => ?_)
  · refine mg_sub (lv' := []) (by simp) ?_
    exact wX11_holes_12 C hRm hd hn hk hw hf
  · refine mg_iload_n C rfl rfl ?_
    refine mg_sipush (v := 480) C rfl (by decide) ?_
    refine mh_icmp_le C rfl hf (fun e_9 hf => ?_) (fun e_9 hf => ?_)
    · refine mg_aload_n C rfl rfl ?_
      refine mh_cVU (M' := qX11_lookAround) C rfl rfl aX11_lookAround iX11_lookAround sX11_lookAround hRm (by omega) (by decide) (by omega) (by omega) rfl rfl rfl (Nat.le_of_ble_eq_true rfl) rfl hf (fun hs => wX11_lookAround (by omega) (by omega) hs) (fun c1 hf => ?_)
      refine mg_iconst (v := 0) C rfl (by decide) ?_
      refine mg_istore_n (lv' := [(0, .ref v0), (1, .int v1), (2, .int (0 : Int32))]) C rfl (Nat.le_of_ble_eq_true rfl) rfl ?_
      refine mg_iconst (v := 0) C rfl (by decide) ?_
      refine mg_istore_n (lv' := [(0, .ref v0), (1, .int v1), (2, .int (0 : Int32)), (3, .int (0 : Int32))]) C rfl (Nat.le_of_ble_eq_true rfl) rfl ?_
      exact WX11_holes_31 C hRm hd hn hk hw N hf
    · refine mg_sub (lv' := []) (by simp) ?_
      exact wX11_holes_12 C hRm hd hn hk hw hf
def fX11_holes (N : Nat) (v0 : Nat) (v1 : Int32) (c : mm_C) : mR Int32 := bX11_holes_0 N v0 v1 c
set_option maxRecDepth 100000 in
theorem wX11_holes {Z : mm_Z} {d n N : Nat} (hd : 7 ≤ d) (hn : n + 1 < 1000000) {v0 : Nat} {v1 : Int32} {c : mm_C} (hs : (fX11_holes N v0 v1 c).isSome = true) : mC Z qX11_holes d 1 6 [.ref v0, .int v1] (n, c) (mP 0 ovI n (fX11_holes N v0 v1 c)) := by
  refine mC_of gX11_holes (by decide +kernel) (Nat.le_of_ble_eq_true rfl) fun X C hRm => ?_
  have hf := hO_mP 0 ovI n hs
  have hk : 0 + 1 ≤ 1 := Nat.le_of_ble_eq_true rfl
  have hw : 0 + 6 ≤ 6 := Nat.le_of_ble_eq_true rfl
  show mG _ _ _ _ _ _ _ _ (0, [(0, .ref v0), (1, .int v1)], [], (n, c))
  exact wX11_holes_0 C hRm hd hn hk hw hf
def bX11_lowered_60 (N : Nat)  (s0 : Int64) (c : mm_C) : mR Int64 :=
  some (.inl s0, c)
set_option maxRecDepth 100000 in
theorem wX11_lowered_60 {Z : mm_Z} {X : mm_T} {k w mc ms d n N : Nat} {Q : mm_O → mm_H → Prop} (C : mm_Ok Z qX11_lowered X) (hRm : mt_R X = mm_rm d mc ms) (hd : 1 ≤ d) (hn : n + 1 < 1000000) (hk : k + 1 ≤ mc) (hw : w + 6 ≤ ms) {s0 : Int64} {c : mm_C} (hf : hO 0 ovL n (bX11_lowered_60 N  s0 c) Q) : mG Z qX11_lowered X k w mc ms Q (60, [], [.long s0], (n, c)) := by
  unfold bX11_lowered_60 at hf
  exact mh_lreturn C rfl (by omega) (by omega) rfl hf
def bX11_lowered_45 (N : Nat)  (v0 : Int64) (v6 : Int64) (c : mm_C) : mR Int64 :=
  if ¬ (lg_cmp v6 (0 : Int64)) = 0 then (Option.bind (dvL v0 v6) fun x1 => bX11_lowered_60 N  x1 c) else (bX11_lowered_60 N  v0 c)
set_option maxRecDepth 100000 in
theorem wX11_lowered_45 {Z : mm_Z} {X : mm_T} {k w mc ms d n N : Nat} {Q : mm_O → mm_H → Prop} (C : mm_Ok Z qX11_lowered X) (hRm : mt_R X = mm_rm d mc ms) (hd : 1 ≤ d) (hn : n + 1 < 1000000) (hk : k + 1 ≤ mc) (hw : w + 6 ≤ ms) {v0 : Int64} {v6 : Int64} {c : mm_C} (hf : hO 0 ovL n (bX11_lowered_45 N  v0 v6 c) Q) : mG Z qX11_lowered X k w mc ms Q (45, [(0, .long v0), (6, .long v6)], [], (n, c)) := by
  unfold bX11_lowered_45 at hf
  refine mg_lload C rfl rfl ?_
  refine mg_lconst (v := 0) C rfl (by decide) ?_
  refine mg_lcmp C rfl ?_
  refine mh_if_ne C rfl hf (fun e_49 hf => ?_) (fun e_49 hf => ?_)
  · refine mg_lload_n C rfl rfl ?_
    refine mg_lload C rfl rfl ?_
    refine mh_ldiv C rfl hf (fun x1 hf => ?_)
    refine mg_sub (lv' := []) (by simp) ?_
    exact wX11_lowered_60 C hRm hd hn hk hw hf
  · refine mg_lload_n C rfl rfl ?_
    refine mg_goto C rfl ?_
    refine mg_sub (lv' := []) (by simp) ?_
    exact wX11_lowered_60 C hRm hd hn hk hw hf
def bX11_lowered_10 (N : Nat)  (k10 : Int64 → Int64 → Int64 → Int32 → mm_C → mR Int64) (v0 : Int64) (v6 : Int64) (v8 : Int64) (v10 : Int32) (c : mm_C) : mR Int64 :=
  if (100 : Int32) ≤ v10 then (bX11_lowered_45 N  v0 v6 c) else (if (lg_cmp v8 (0 : Int64)) = 0 then (bX11_lowered_45 N  v0 v6 c) else (Option.bind (rmL v6 v8) fun x1 => k10 v0 v8 x1 (v10 + 1) c))
set_option maxRecDepth 100000 in
theorem wX11_lowered_10 {Z : mm_Z} {X : mm_T} {k w mc ms d n N : Nat} {Q : mm_O → mm_H → Prop} (C : mm_Ok Z qX11_lowered X) (hRm : mt_R X = mm_rm d mc ms) (hd : 1 ≤ d) (hn : n + 1 < 1000000) (hk : k + 1 ≤ mc) (hw : w + 6 ≤ ms) {k10 : Int64 → Int64 → Int64 → Int32 → mm_C → mR Int64} (hk10 : ∀ (v0 : Int64) (v6 : Int64) (v8 : Int64) (v10 : Int32) (c : mm_C), hO 0 ovL n (k10 v0 v6 v8 v10 c) Q → mG Z qX11_lowered X k w mc ms Q (10, [(0, .long v0), (6, .long v6), (8, .long v8), (10, .int v10)], [], (n, c))) {v0 : Int64} {v6 : Int64} {v8 : Int64} {v10 : Int32} {c : mm_C} (hf : hO 0 ovL n (bX11_lowered_10 N  k10 v0 v6 v8 v10 c) Q) : mG Z qX11_lowered X k w mc ms Q (10, [(0, .long v0), (6, .long v6), (8, .long v8), (10, .int v10)], [], (n, c)) := by
  unfold bX11_lowered_10 at hf
  refine mg_iload C rfl rfl ?_
  refine mg_bipush (v := 100) C rfl (by decide) ?_
  refine mh_icmp_ge C rfl hf (fun e_14 hf => ?_) (fun e_14 hf => ?_)
  · refine mg_sub (lv' := [(0, .long v0), (6, .long v6)]) (by simp) ?_
    exact wX11_lowered_45 C hRm hd hn hk hw hf
  · refine mg_lload C rfl rfl ?_
    refine mg_lconst (v := 0) C rfl (by decide) ?_
    refine mg_lcmp C rfl ?_
    refine mh_if_eq C rfl hf (fun e_21 hf => ?_) (fun e_21 hf => ?_)
    · refine mg_sub (lv' := [(0, .long v0), (6, .long v6)]) (by simp) ?_
      exact wX11_lowered_45 C hRm hd hn hk hw hf
    · refine mg_lload C rfl rfl ?_
      refine mg_lload C rfl rfl ?_
      refine mh_lrem C rfl hf (fun x1 hf => ?_)
      refine mg_lstore (lv' := [(0, .long v0), (6, .long v6), (8, .long v8), (10, .int v10), (11, .long x1)]) C rfl (Nat.le_of_ble_eq_true rfl) rfl ?_
      refine mg_lload C rfl rfl ?_
      refine mg_lstore (lv' := [(0, .long v0), (6, .long v8), (8, .long v8), (10, .int v10), (11, .long x1)]) C rfl (Nat.le_of_ble_eq_true rfl) rfl ?_
      refine mg_lload C rfl rfl ?_
      refine mg_lstore (lv' := [(0, .long v0), (6, .long v8), (8, .long x1), (10, .int v10), (11, .long x1)]) C rfl (Nat.le_of_ble_eq_true rfl) rfl ?_
      refine mg_iinc (lv' := [(0, .long v0), (6, .long v8), (8, .long x1), (10, .int (v10 + 1)), (11, .long x1)]) C rfl (Nat.le_of_ble_eq_true rfl) rfl (show _ + Int32.ofInt 1 = _ + 1 by congr 1) rfl ?_
      refine mg_goto C rfl ?_
      refine mg_sub (lv' := [(0, .long v0), (6, .long v8), (8, .long x1), (10, .int (v10 + 1))]) (by simp) ?_
      exact hk10 _ _ _ _ _ hf
def lX11_lowered_10 (N : Nat)  : Nat → Int64 → Int64 → Int64 → Int32 → mm_C → mR Int64
  | 0, _, _, _, _, _ => none
  | m + 1, v0, v6, v8, v10, c => bX11_lowered_10 N  (lX11_lowered_10 N  m) v0 v6 v8 v10 c
theorem WX11_lowered_10 {Z : mm_Z} {X : mm_T} {k w mc ms d n N : Nat} {Q : mm_O → mm_H → Prop} (C : mm_Ok Z qX11_lowered X) (hRm : mt_R X = mm_rm d mc ms) (hd : 1 ≤ d) (hn : n + 1 < 1000000) (hk : k + 1 ≤ mc) (hw : w + 6 ≤ ms) : ∀ (m : Nat) {v0 : Int64} {v6 : Int64} {v8 : Int64} {v10 : Int32} {c : mm_C} (hf : hO 0 ovL n (lX11_lowered_10 N  m v0 v6 v8 v10 c) Q), mG Z qX11_lowered X k w mc ms Q (10, [(0, .long v0), (6, .long v6), (8, .long v8), (10, .int v10)], [], (n, c)) := by
  intro m
  induction m with
  | zero => intro v0 v6 v8 v10 c hf; exact absurd hf hO_none
  | succ m ih => intro v0 v6 v8 v10 c hf; exact wX11_lowered_10 C hRm hd hn hk hw (fun v0 v6 v8 v10 c hf => ih hf) hf
def bX11_lowered_0 (N : Nat)  (v0 : Int64) (v2 : Int64) (v4 : Int64) (c : mm_C) : mR Int64 :=
  lX11_lowered_10 N  N v0 v2 v4 (0 : Int32) c
set_option maxRecDepth 100000 in
theorem wX11_lowered_0 {Z : mm_Z} {X : mm_T} {k w mc ms d n N : Nat} {Q : mm_O → mm_H → Prop} (C : mm_Ok Z qX11_lowered X) (hRm : mt_R X = mm_rm d mc ms) (hd : 1 ≤ d) (hn : n + 1 < 1000000) (hk : k + 1 ≤ mc) (hw : w + 6 ≤ ms) {v0 : Int64} {v2 : Int64} {v4 : Int64} {c : mm_C} (hf : hO 0 ovL n (bX11_lowered_0 N  v0 v2 v4 c) Q) : mG Z qX11_lowered X k w mc ms Q (0, [(0, .long v0), (2, .long v2), (4, .long v4)], [], (n, c)) := by
  unfold bX11_lowered_0 at hf
  refine mg_lload_n C rfl rfl ?_
  refine mg_lstore (lv' := [(0, .long v0), (2, .long v2), (4, .long v4), (6, .long v2)]) C rfl (Nat.le_of_ble_eq_true rfl) rfl ?_
  refine mg_lload C rfl rfl ?_
  refine mg_lstore (lv' := [(0, .long v0), (2, .long v2), (4, .long v4), (6, .long v2), (8, .long v4)]) C rfl (Nat.le_of_ble_eq_true rfl) rfl ?_
  refine mg_iconst (v := 0) C rfl (by decide) ?_
  refine mg_istore (lv' := [(0, .long v0), (2, .long v2), (4, .long v4), (6, .long v2), (8, .long v4), (10, .int (0 : Int32))]) C rfl (Nat.le_of_ble_eq_true rfl) rfl ?_
  refine mg_sub (lv' := [(0, .long v0), (6, .long v2), (8, .long v4), (10, .int (0 : Int32))]) (by simp) ?_
  exact WX11_lowered_10 C hRm hd hn hk hw N hf
def fX11_lowered (N : Nat) (v0 : Int64) (v2 : Int64) (v4 : Int64) (c : mm_C) : mR Int64 := bX11_lowered_0 N v0 v2 v4 c
set_option maxRecDepth 100000 in
theorem wX11_lowered {Z : mm_Z} {d n N : Nat} (hd : 1 ≤ d) (hn : n + 1 < 1000000) {v0 : Int64} {v2 : Int64} {v4 : Int64} {c : mm_C} (hs : (fX11_lowered N v0 v2 v4 c).isSome = true) : mC Z qX11_lowered d 1 6 [.long v0, .long v2, .long v4] (n, c) (mP 0 ovL n (fX11_lowered N v0 v2 v4 c)) := by
  refine mC_of gX11_lowered (by decide +kernel) (Nat.le_of_ble_eq_true rfl) fun X C hRm => ?_
  have hf := hO_mP 0 ovL n hs
  have hk : 0 + 1 ≤ 1 := Nat.le_of_ble_eq_true rfl
  have hw : 0 + 6 ≤ 6 := Nat.le_of_ble_eq_true rfl
  show mG _ _ _ _ _ _ _ _ (0, [(0, .long v0), (2, .long v2), (4, .long v4)], [], (n, c))
  exact wX11_lowered_0 C hRm hd hn hk hw hf
def bX11_hole_87 (N : Nat)  (v1 : Int32) (v2 : Int32) (v3 : Int32) (v4 : Int32) (v5 : Int32) (c : mm_C) : mR Int32 :=
  if v1 = (0 : Int32) then (if ¬ v2 = 0 then (cS (fX11_lowered N v3.toInt64 v3.toInt64 v2.toInt64 c) fun r1 c2 => some (.inl r1.toInt32, c2)) else (some (.inl (0 : Int32), c))) else (if v1 = (1 : Int32) then (if ¬ v2 = 0 then (cS (fX11_lowered N v2.toInt64 v3.toInt64 v2.toInt64 c) fun r3 c4 => some (.inl r3.toInt32, c4)) else (some (.inl (1 : Int32), c))) else (if v1 = (2 : Int32) then (some (.inl v4, c)) else (some (.inl v5, c))))
set_option maxRecDepth 100000 in
theorem wX11_hole_87 {Z : mm_Z} {X : mm_T} {k w mc ms d n N : Nat} {Q : mm_O → mm_H → Prop} (C : mm_Ok Z qX11_hole X) (hRm : mt_R X = mm_rm d mc ms) (hd : 8 ≤ d) (hn : n + 1 < 1000000) (hk : k + 1 ≤ mc) (hw : w + 6 ≤ ms) {v1 : Int32} {v2 : Int32} {v3 : Int32} {v4 : Int32} {v5 : Int32} {c : mm_C} (hf : hO 0 ovI n (bX11_hole_87 N  v1 v2 v3 v4 v5 c) Q) : mG Z qX11_hole X k w mc ms Q (87, [(1, .int v1), (2, .int v2), (3, .int v3), (4, .int v4), (5, .int v5)], [], (n, c)) := by
  unfold bX11_hole_87 at hf
  refine mg_iload_n C rfl rfl ?_
  refine mh_case hf (fun e_88 hf => ?_) (fun n_1000 hf => ?_)
  · refine mg_tabIn e_88 (tgt := 116) C rfl (by decide) (by decide) rfl (by decide) ?_
    refine mg_iload_n C rfl rfl ?_
    refine mh_if_ne C rfl hf (fun e_117 hf => ?_) (fun e_117 hf => ?_)
    · refine mg_iload_n C rfl rfl ?_
      refine mg_i2l C rfl ?_
      refine mg_iload_n C rfl rfl ?_
      refine mg_i2l C rfl ?_
      refine mg_iload_n C rfl rfl ?_
      refine mg_i2l C rfl ?_
      refine mh_cSL (M' := qX11_lowered) C rfl rfl aX11_lowered tX11_lowered hRm (by omega) (by decide) (by omega) (by omega) rfl rfl (Nat.le_of_ble_eq_true rfl) rfl hf (fun hs => wX11_lowered (by omega) (by omega) hs) (fun r1 c2 hf => ?_)
      refine mg_l2i C rfl ?_
      exact mh_ireturn C rfl (by omega) (by omega) rfl hf
    · refine mg_iconst (v := 0) C rfl (by decide) ?_
      refine mg_goto C rfl ?_
      exact mh_ireturn C rfl (by omega) (by omega) rfl hf
  refine mh_case hf (fun e_88 hf => ?_) (fun n_1001 hf => ?_)
  · refine mg_tabIn e_88 (tgt := 135) C rfl (by decide) (by decide) rfl (by decide) ?_
    refine mg_iload_n C rfl rfl ?_
    refine mh_if_ne C rfl hf (fun e_136 hf => ?_) (fun e_136 hf => ?_)
    · refine mg_iload_n C rfl rfl ?_
      refine mg_i2l C rfl ?_
      refine mg_iload_n C rfl rfl ?_
      refine mg_i2l C rfl ?_
      refine mg_iload_n C rfl rfl ?_
      refine mg_i2l C rfl ?_
      refine mh_cSL (M' := qX11_lowered) C rfl rfl aX11_lowered tX11_lowered hRm (by omega) (by decide) (by omega) (by omega) rfl rfl (Nat.le_of_ble_eq_true rfl) rfl hf (fun hs => wX11_lowered (by omega) (by omega) hs) (fun r3 c4 hf => ?_)
      refine mg_l2i C rfl ?_
      exact mh_ireturn C rfl (by omega) (by omega) rfl hf
    · refine mg_iconst (v := 1) C rfl (by decide) ?_
      refine mg_goto C rfl ?_
      exact mh_ireturn C rfl (by omega) (by omega) rfl hf
  refine mh_case hf (fun e_88 hf => ?_) (fun n_1002 hf => ?_)
  · refine mg_tabIn e_88 (tgt := 154) C rfl (by decide) (by decide) rfl (by decide) ?_
    refine mg_iload C rfl rfl ?_
    exact mh_ireturn C rfl (by omega) (by omega) rfl hf
  refine mg_tableOut (tgt := 157) C rfl (tsw_out [0, 1, 2] (by decide) (List.forall_mem_cons.mpr ⟨n_1000, List.forall_mem_cons.mpr ⟨n_1001, List.forall_mem_cons.mpr ⟨n_1002, List.forall_mem_nil _⟩⟩⟩)) (by decide) ?_
  refine mg_iload C rfl rfl ?_
  exact mh_ireturn C rfl (by omega) (by omega) rfl hf
def bX11_hole_81 (N : Nat)  (k22 : Nat → Int32 → Int32 → Int32 → Int32 → Int32 → Int32 → mm_C → mR Int32) (v0 : Nat) (v1 : Int32) (v2 : Int32) (v3 : Int32) (v4 : Int32) (v5 : Int32) (v6 : Int32) (c : mm_C) : mR Int32 :=
  k22 v0 v1 v2 v3 v4 v5 (v6 + 1) c
set_option maxRecDepth 100000 in
theorem wX11_hole_81 {Z : mm_Z} {X : mm_T} {k w mc ms d n N : Nat} {Q : mm_O → mm_H → Prop} (C : mm_Ok Z qX11_hole X) (hRm : mt_R X = mm_rm d mc ms) (hd : 8 ≤ d) (hn : n + 1 < 1000000) (hk : k + 1 ≤ mc) (hw : w + 6 ≤ ms) {k22 : Nat → Int32 → Int32 → Int32 → Int32 → Int32 → Int32 → mm_C → mR Int32} (hk22 : ∀ (v0 : Nat) (v1 : Int32) (v2 : Int32) (v3 : Int32) (v4 : Int32) (v5 : Int32) (v6 : Int32) (c : mm_C), hO 0 ovI n (k22 v0 v1 v2 v3 v4 v5 v6 c) Q → mG Z qX11_hole X k w mc ms Q (22, [(0, .ref v0), (1, .int v1), (2, .int v2), (3, .int v3), (4, .int v4), (5, .int v5), (6, .int v6)], [], (n, c))) {v0 : Nat} {v1 : Int32} {v2 : Int32} {v3 : Int32} {v4 : Int32} {v5 : Int32} {v6 : Int32} {c : mm_C} (hf : hO 0 ovI n (bX11_hole_81 N  k22 v0 v1 v2 v3 v4 v5 v6 c) Q) : mG Z qX11_hole X k w mc ms Q (81, [(0, .ref v0), (1, .int v1), (2, .int v2), (3, .int v3), (4, .int v4), (5, .int v5), (6, .int v6)], [], (n, c)) := by
  unfold bX11_hole_81 at hf
  refine mg_iinc (lv' := [(0, .ref v0), (1, .int v1), (2, .int v2), (3, .int v3), (4, .int v4), (5, .int v5), (6, .int (v6 + 1))]) C rfl (Nat.le_of_ble_eq_true rfl) rfl (show _ + Int32.ofInt 1 = _ + 1 by congr 1) rfl ?_
  refine mg_goto C rfl ?_
  exact hk22 _ _ _ _ _ _ _ _ hf
def bX11_hole_22 (N : Nat)  (k22 : Nat → Int32 → Int32 → Int32 → Int32 → Int32 → Int32 → mm_C → mR Int32) (v0 : Nat) (v1 : Int32) (v2 : Int32) (v3 : Int32) (v4 : Int32) (v5 : Int32) (v6 : Int32) (c : mm_C) : mR Int32 :=
  Option.bind (gR c v0 11 3) fun x1 => Option.bind (gI c x1 3 0) fun x2 => if x2 ≤ v6 then (bX11_hole_87 N  v1 v2 v3 v4 v5 c) else (Option.bind (gR c v0 11 10) fun x3 => cV 1 x3 c (fX1_beginsHole N x3 v6 c) fun r4 c5 => if r4 = 0 then (bX11_hole_81 N  k22 v0 v1 v2 v3 v4 v5 v6 c5) else (Option.bind (gR c5 v0 11 10) fun x6 => Option.bind (gR c5 x6 1 0) fun x7 => Option.bind (aI c5 x7 v6) fun x8 => if x8 ≤ v4 then (bX11_hole_81 N  k22 v0 v1 (v2 + 1) (v3 + x8) v4 v5 v6 c5) else (bX11_hole_81 N  k22 v0 v1 (v2 + 1) (v3 + x8) x8 v6 v6 c5)))
set_option maxRecDepth 100000 in
theorem wX11_hole_22 {Z : mm_Z} {X : mm_T} {k w mc ms d n N : Nat} {Q : mm_O → mm_H → Prop} (C : mm_Ok Z qX11_hole X) (hRm : mt_R X = mm_rm d mc ms) (hd : 8 ≤ d) (hn : n + 1 < 1000000) (hk : k + 1 ≤ mc) (hw : w + 6 ≤ ms) {k22 : Nat → Int32 → Int32 → Int32 → Int32 → Int32 → Int32 → mm_C → mR Int32} (hk22 : ∀ (v0 : Nat) (v1 : Int32) (v2 : Int32) (v3 : Int32) (v4 : Int32) (v5 : Int32) (v6 : Int32) (c : mm_C), hO 0 ovI n (k22 v0 v1 v2 v3 v4 v5 v6 c) Q → mG Z qX11_hole X k w mc ms Q (22, [(0, .ref v0), (1, .int v1), (2, .int v2), (3, .int v3), (4, .int v4), (5, .int v5), (6, .int v6)], [], (n, c))) {v0 : Nat} {v1 : Int32} {v2 : Int32} {v3 : Int32} {v4 : Int32} {v5 : Int32} {v6 : Int32} {c : mm_C} (hf : hO 0 ovI n (bX11_hole_22 N  k22 v0 v1 v2 v3 v4 v5 v6 c) Q) : mG Z qX11_hole X k w mc ms Q (22, [(0, .ref v0), (1, .int v1), (2, .int v2), (3, .int v3), (4, .int v4), (5, .int v5), (6, .int v6)], [], (n, c)) := by
  unfold bX11_hole_22 at hf
  refine mg_iload C rfl rfl ?_
  refine mg_aload_n C rfl rfl ?_
  refine mh_gR C rfl rfl rfl (by decide) hf (fun x1 hf => ?_)
  refine mh_gI C rfl rfl rfl (by decide) hf (fun x2 hf => ?_)
  refine mh_icmp_ge C rfl hf (fun e_31 hf => ?_) (fun e_31 hf => ?_)
  · refine mg_sub (lv' := [(1, .int v1), (2, .int v2), (3, .int v3), (4, .int v4), (5, .int v5)]) (by simp) ?_
    exact wX11_hole_87 C hRm hd hn hk hw hf
  · refine mg_aload_n C rfl rfl ?_
    refine mh_gR C rfl rfl rfl (by decide) hf (fun x3 hf => ?_)
    refine mg_iload C rfl rfl ?_
    refine mh_cVI (M' := qX1_beginsHole) C rfl rfl aX1_beginsHole iX1_beginsHole sX1_beginsHole hRm (by omega) (by decide) (by omega) (by omega) rfl rfl rfl (Nat.le_of_ble_eq_true rfl) rfl hf (fun hs => wX1_beginsHole (by omega) (by omega) hs) (fun r4 c5 hf => ?_)
    refine mh_if_eq C rfl hf (fun e_43 hf => ?_) (fun e_43 hf => ?_)
    · exact wX11_hole_81 C hRm hd hn hk hw hk22 hf
    · refine mg_aload_n C rfl rfl ?_
      refine mh_gR C rfl rfl rfl (by decide) hf (fun x6 hf => ?_)
      refine mh_gR C rfl rfl rfl (by decide) hf (fun x7 hf => ?_)
      refine mg_iload C rfl rfl ?_
      refine mh_aI C rfl hf (fun x8 hf => ?_)
      refine mg_istore (lv' := [(0, .ref v0), (1, .int v1), (2, .int v2), (3, .int v3), (4, .int v4), (5, .int v5), (6, .int v6), (7, .int x8)]) C rfl (Nat.le_of_ble_eq_true rfl) rfl ?_
      refine mg_iinc (lv' := [(0, .ref v0), (1, .int v1), (2, .int (v2 + 1)), (3, .int v3), (4, .int v4), (5, .int v5), (6, .int v6), (7, .int x8)]) C rfl (Nat.le_of_ble_eq_true rfl) rfl (show _ + Int32.ofInt 1 = _ + 1 by congr 1) rfl ?_
      refine mg_iload_n C rfl rfl ?_
      refine mg_iload C rfl rfl ?_
      refine mg_iadd C rfl ?_
      refine mg_istore_n (lv' := [(0, .ref v0), (1, .int v1), (2, .int (v2 + 1)), (3, .int (v3 + x8)), (4, .int v4), (5, .int v5), (6, .int v6), (7, .int x8)]) C rfl (Nat.le_of_ble_eq_true rfl) rfl ?_
      refine mg_iload C rfl rfl ?_
      refine mg_iload C rfl rfl ?_
      refine mh_icmp_le C rfl hf (fun e_70 hf => ?_) (fun e_70 hf => ?_)
      · refine mg_sub (lv' := [(0, .ref v0), (1, .int v1), (2, .int (v2 + 1)), (3, .int (v3 + x8)), (4, .int v4), (5, .int v5), (6, .int v6)]) (by simp) ?_
        exact wX11_hole_81 C hRm hd hn hk hw hk22 hf
      · refine mg_iload C rfl rfl ?_
        refine mg_istore (lv' := [(0, .ref v0), (1, .int v1), (2, .int (v2 + 1)), (3, .int (v3 + x8)), (4, .int x8), (5, .int v5), (6, .int v6), (7, .int x8)]) C rfl (Nat.le_of_ble_eq_true rfl) rfl ?_
        refine mg_iload C rfl rfl ?_
        refine mg_istore (lv' := [(0, .ref v0), (1, .int v1), (2, .int (v2 + 1)), (3, .int (v3 + x8)), (4, .int x8), (5, .int v6), (6, .int v6), (7, .int x8)]) C rfl (Nat.le_of_ble_eq_true rfl) rfl ?_
        refine mg_sub (lv' := [(0, .ref v0), (1, .int v1), (2, .int (v2 + 1)), (3, .int (v3 + x8)), (4, .int x8), (5, .int v6), (6, .int v6)]) (by simp) ?_
        exact wX11_hole_81 C hRm hd hn hk hw hk22 hf
def lX11_hole_22 (N : Nat)  : Nat → Nat → Int32 → Int32 → Int32 → Int32 → Int32 → Int32 → mm_C → mR Int32
  | 0, _, _, _, _, _, _, _, _ => none
  | m + 1, v0, v1, v2, v3, v4, v5, v6, c => bX11_hole_22 N  (lX11_hole_22 N  m) v0 v1 v2 v3 v4 v5 v6 c
theorem WX11_hole_22 {Z : mm_Z} {X : mm_T} {k w mc ms d n N : Nat} {Q : mm_O → mm_H → Prop} (C : mm_Ok Z qX11_hole X) (hRm : mt_R X = mm_rm d mc ms) (hd : 8 ≤ d) (hn : n + 1 < 1000000) (hk : k + 1 ≤ mc) (hw : w + 6 ≤ ms) : ∀ (m : Nat) {v0 : Nat} {v1 : Int32} {v2 : Int32} {v3 : Int32} {v4 : Int32} {v5 : Int32} {v6 : Int32} {c : mm_C} (hf : hO 0 ovI n (lX11_hole_22 N  m v0 v1 v2 v3 v4 v5 v6 c) Q), mG Z qX11_hole X k w mc ms Q (22, [(0, .ref v0), (1, .int v1), (2, .int v2), (3, .int v3), (4, .int v4), (5, .int v5), (6, .int v6)], [], (n, c)) := by
  intro m
  induction m with
  | zero => intro v0 v1 v2 v3 v4 v5 v6 c hf; exact absurd hf hO_none
  | succ m ih => intro v0 v1 v2 v3 v4 v5 v6 c hf; exact wX11_hole_22 C hRm hd hn hk hw (fun v0 v1 v2 v3 v4 v5 v6 c hf => ih hf) hf
def bX11_hole_0 (N : Nat)  (v0 : Nat) (v1 : Int32) (c : mm_C) : mR Int32 :=
  cS (fX11_requireWhat N v1 (3 : Int32) c) fun (_ : Unit) c1 => cV 11 v0 c1 (fX11_lookAround N v0 c1) fun (_ : Unit) c2 => lX11_hole_22 N  N v0 v1 (0 : Int32) (0 : Int32) (0 : Int32) (-1 : Int32) (0 : Int32) c2
set_option maxRecDepth 100000 in
theorem wX11_hole_0 {Z : mm_Z} {X : mm_T} {k w mc ms d n N : Nat} {Q : mm_O → mm_H → Prop} (C : mm_Ok Z qX11_hole X) (hRm : mt_R X = mm_rm d mc ms) (hd : 8 ≤ d) (hn : n + 1 < 1000000) (hk : k + 1 ≤ mc) (hw : w + 6 ≤ ms) {v0 : Nat} {v1 : Int32} {c : mm_C} (hf : hO 0 ovI n (bX11_hole_0 N  v0 v1 c) Q) : mG Z qX11_hole X k w mc ms Q (0, [(0, .ref v0), (1, .int v1)], [], (n, c)) := by
  unfold bX11_hole_0 at hf
  refine mg_iload_n C rfl rfl ?_
  refine mg_iconst (v := 3) C rfl (by decide) ?_
  refine mh_cSU (M' := qX11_requireWhat) C rfl rfl aX11_requireWhat tX11_requireWhat hRm (by omega) (by decide) (by omega) (by omega) rfl rfl (Nat.le_of_ble_eq_true rfl) rfl hf (fun hs => wX11_requireWhat (by omega) (by omega) hs) (fun c1 hf => ?_)
  refine mg_aload_n C rfl rfl ?_
  refine mh_cVU (M' := qX11_lookAround) C rfl rfl aX11_lookAround iX11_lookAround sX11_lookAround hRm (by omega) (by decide) (by omega) (by omega) rfl rfl rfl (Nat.le_of_ble_eq_true rfl) rfl hf (fun hs => wX11_lookAround (by omega) (by omega) hs) (fun c2 hf => ?_)
  refine mg_iconst (v := 0) C rfl (by decide) ?_
  refine mg_istore_n (lv' := [(0, .ref v0), (1, .int v1), (2, .int (0 : Int32))]) C rfl (Nat.le_of_ble_eq_true rfl) rfl ?_
  refine mg_iconst (v := 0) C rfl (by decide) ?_
  refine mg_istore_n (lv' := [(0, .ref v0), (1, .int v1), (2, .int (0 : Int32)), (3, .int (0 : Int32))]) C rfl (Nat.le_of_ble_eq_true rfl) rfl ?_
  refine mg_iconst (v := 0) C rfl (by decide) ?_
  refine mg_istore (lv' := [(0, .ref v0), (1, .int v1), (2, .int (0 : Int32)), (3, .int (0 : Int32)), (4, .int (0 : Int32))]) C rfl (Nat.le_of_ble_eq_true rfl) rfl ?_
  refine mg_iconst (v := (-1)) C rfl (by decide) ?_
  refine mg_istore (lv' := [(0, .ref v0), (1, .int v1), (2, .int (0 : Int32)), (3, .int (0 : Int32)), (4, .int (0 : Int32)), (5, .int (-1 : Int32))]) C rfl (Nat.le_of_ble_eq_true rfl) rfl ?_
  refine mg_iconst (v := 0) C rfl (by decide) ?_
  refine mg_istore (lv' := [(0, .ref v0), (1, .int v1), (2, .int (0 : Int32)), (3, .int (0 : Int32)), (4, .int (0 : Int32)), (5, .int (-1 : Int32)), (6, .int (0 : Int32))]) C rfl (Nat.le_of_ble_eq_true rfl) rfl ?_
  exact WX11_hole_22 C hRm hd hn hk hw N hf
def fX11_hole (N : Nat) (v0 : Nat) (v1 : Int32) (c : mm_C) : mR Int32 := bX11_hole_0 N v0 v1 c
set_option maxRecDepth 100000 in
theorem wX11_hole {Z : mm_Z} {d n N : Nat} (hd : 8 ≤ d) (hn : n + 1 < 1000000) {v0 : Nat} {v1 : Int32} {c : mm_C} (hs : (fX11_hole N v0 v1 c).isSome = true) : mC Z qX11_hole d 1 6 [.ref v0, .int v1] (n, c) (mP 0 ovI n (fX11_hole N v0 v1 c)) := by
  refine mC_of gX11_hole (by decide +kernel) (Nat.le_of_ble_eq_true rfl) fun X C hRm => ?_
  have hf := hO_mP 0 ovI n hs
  have hk : 0 + 1 ≤ 1 := Nat.le_of_ble_eq_true rfl
  have hw : 0 + 6 ≤ 6 := Nat.le_of_ble_eq_true rfl
  show mG _ _ _ _ _ _ _ _ (0, [(0, .ref v0), (1, .int v1)], [], (n, c))
  exact wX11_hole_0 C hRm hd hn hk hw hf
def bX11_power_22 (N : Nat)  (v2 : Int64) (c : mm_C) : mR Int64 :=
  some (.inl v2, c)
set_option maxRecDepth 100000 in
theorem wX11_power_22 {Z : mm_Z} {X : mm_T} {k w mc ms d n N : Nat} {Q : mm_O → mm_H → Prop} (C : mm_Ok Z qX11_power X) (hRm : mt_R X = mm_rm d mc ms) (hd : 1 ≤ d) (hn : n + 1 < 1000000) (hk : k + 1 ≤ mc) (hw : w + 6 ≤ ms) {v2 : Int64} {c : mm_C} (hf : hO 0 ovL n (bX11_power_22 N  v2 c) Q) : mG Z qX11_power X k w mc ms Q (22, [(2, .long v2)], [], (n, c)) := by
  unfold bX11_power_22 at hf
  refine mg_lload_n C rfl rfl ?_
  exact mh_lreturn C rfl (by omega) (by omega) rfl hf
def bX11_power_5 (N : Nat)  (k5 : Int32 → Int32 → Int64 → Int32 → mm_C → mR Int64) (v0 : Int32) (v1 : Int32) (v2 : Int64) (v4 : Int32) (c : mm_C) : mR Int64 :=
  if v1 ≤ v4 then (bX11_power_22 N  v2 c) else (k5 v0 v1 (v2 * v0.toInt64) (v4 + 1) c)
set_option maxRecDepth 100000 in
theorem wX11_power_5 {Z : mm_Z} {X : mm_T} {k w mc ms d n N : Nat} {Q : mm_O → mm_H → Prop} (C : mm_Ok Z qX11_power X) (hRm : mt_R X = mm_rm d mc ms) (hd : 1 ≤ d) (hn : n + 1 < 1000000) (hk : k + 1 ≤ mc) (hw : w + 6 ≤ ms) {k5 : Int32 → Int32 → Int64 → Int32 → mm_C → mR Int64} (hk5 : ∀ (v0 : Int32) (v1 : Int32) (v2 : Int64) (v4 : Int32) (c : mm_C), hO 0 ovL n (k5 v0 v1 v2 v4 c) Q → mG Z qX11_power X k w mc ms Q (5, [(0, .int v0), (1, .int v1), (2, .long v2), (4, .int v4)], [], (n, c))) {v0 : Int32} {v1 : Int32} {v2 : Int64} {v4 : Int32} {c : mm_C} (hf : hO 0 ovL n (bX11_power_5 N  k5 v0 v1 v2 v4 c) Q) : mG Z qX11_power X k w mc ms Q (5, [(0, .int v0), (1, .int v1), (2, .long v2), (4, .int v4)], [], (n, c)) := by
  unfold bX11_power_5 at hf
  refine mg_iload C rfl rfl ?_
  refine mg_iload_n C rfl rfl ?_
  refine mh_icmp_ge C rfl hf (fun e_8 hf => ?_) (fun e_8 hf => ?_)
  · refine mg_sub (lv' := [(2, .long v2)]) (by simp) ?_
    exact wX11_power_22 C hRm hd hn hk hw hf
  · refine mg_lload_n C rfl rfl ?_
    refine mg_iload_n C rfl rfl ?_
    refine mg_i2l C rfl ?_
    refine mg_lmul C rfl ?_
    refine mg_lstore_n (lv' := [(0, .int v0), (1, .int v1), (2, .long (v2 * v0.toInt64)), (4, .int v4)]) C rfl (Nat.le_of_ble_eq_true rfl) rfl ?_
    refine mg_iinc (lv' := [(0, .int v0), (1, .int v1), (2, .long (v2 * v0.toInt64)), (4, .int (v4 + 1))]) C rfl (Nat.le_of_ble_eq_true rfl) rfl (show _ + Int32.ofInt 1 = _ + 1 by congr 1) rfl ?_
    refine mg_goto C rfl ?_
    exact hk5 _ _ _ _ _ hf
def lX11_power_5 (N : Nat)  : Nat → Int32 → Int32 → Int64 → Int32 → mm_C → mR Int64
  | 0, _, _, _, _, _ => none
  | m + 1, v0, v1, v2, v4, c => bX11_power_5 N  (lX11_power_5 N  m) v0 v1 v2 v4 c
theorem WX11_power_5 {Z : mm_Z} {X : mm_T} {k w mc ms d n N : Nat} {Q : mm_O → mm_H → Prop} (C : mm_Ok Z qX11_power X) (hRm : mt_R X = mm_rm d mc ms) (hd : 1 ≤ d) (hn : n + 1 < 1000000) (hk : k + 1 ≤ mc) (hw : w + 6 ≤ ms) : ∀ (m : Nat) {v0 : Int32} {v1 : Int32} {v2 : Int64} {v4 : Int32} {c : mm_C} (hf : hO 0 ovL n (lX11_power_5 N  m v0 v1 v2 v4 c) Q), mG Z qX11_power X k w mc ms Q (5, [(0, .int v0), (1, .int v1), (2, .long v2), (4, .int v4)], [], (n, c)) := by
  intro m
  induction m with
  | zero => intro v0 v1 v2 v4 c hf; exact absurd hf hO_none
  | succ m ih => intro v0 v1 v2 v4 c hf; exact wX11_power_5 C hRm hd hn hk hw (fun v0 v1 v2 v4 c hf => ih hf) hf
def bX11_power_0 (N : Nat)  (v0 : Int32) (v1 : Int32) (c : mm_C) : mR Int64 :=
  lX11_power_5 N  N v0 v1 (1 : Int64) (0 : Int32) c
set_option maxRecDepth 100000 in
theorem wX11_power_0 {Z : mm_Z} {X : mm_T} {k w mc ms d n N : Nat} {Q : mm_O → mm_H → Prop} (C : mm_Ok Z qX11_power X) (hRm : mt_R X = mm_rm d mc ms) (hd : 1 ≤ d) (hn : n + 1 < 1000000) (hk : k + 1 ≤ mc) (hw : w + 6 ≤ ms) {v0 : Int32} {v1 : Int32} {c : mm_C} (hf : hO 0 ovL n (bX11_power_0 N  v0 v1 c) Q) : mG Z qX11_power X k w mc ms Q (0, [(0, .int v0), (1, .int v1)], [], (n, c)) := by
  unfold bX11_power_0 at hf
  refine mg_lconst (v := 1) C rfl (by decide) ?_
  refine mg_lstore_n (lv' := [(0, .int v0), (1, .int v1), (2, .long (1 : Int64))]) C rfl (Nat.le_of_ble_eq_true rfl) rfl ?_
  refine mg_iconst (v := 0) C rfl (by decide) ?_
  refine mg_istore (lv' := [(0, .int v0), (1, .int v1), (2, .long (1 : Int64)), (4, .int (0 : Int32))]) C rfl (Nat.le_of_ble_eq_true rfl) rfl ?_
  exact WX11_power_5 C hRm hd hn hk hw N hf
def fX11_power (N : Nat) (v0 : Int32) (v1 : Int32) (c : mm_C) : mR Int64 := bX11_power_0 N v0 v1 c
set_option maxRecDepth 100000 in
theorem wX11_power {Z : mm_Z} {d n N : Nat} (hd : 1 ≤ d) (hn : n + 1 < 1000000) {v0 : Int32} {v1 : Int32} {c : mm_C} (hs : (fX11_power N v0 v1 c).isSome = true) : mC Z qX11_power d 1 6 [.int v0, .int v1] (n, c) (mP 0 ovL n (fX11_power N v0 v1 c)) := by
  refine mC_of gX11_power (by decide +kernel) (Nat.le_of_ble_eq_true rfl) fun X C hRm => ?_
  have hf := hO_mP 0 ovL n hs
  have hk : 0 + 1 ≤ 1 := Nat.le_of_ble_eq_true rfl
  have hw : 0 + 6 ≤ 6 := Nat.le_of_ble_eq_true rfl
  show mG _ _ _ _ _ _ _ _ (0, [(0, .int v0), (1, .int v1)], [], (n, c))
  exact wX11_power_0 C hRm hd hn hk hw hf
def bX11_requireTry_21 (N : Nat)   (c : mm_C) : mR Unit :=
  some (.inr 0, c)
set_option maxRecDepth 100000 in
theorem wX11_requireTry_21 {Z : mm_Z} {X : mm_T} {k w mc ms d n N : Nat} {Q : mm_O → mm_H → Prop} (C : mm_Ok Z qX11_requireTry X) (hRm : mt_R X = mm_rm d mc ms) (hd : 7 ≤ d) (hn : n + 1 < 1000000) (hk : k + 1 ≤ mc) (hw : w + 6 ≤ ms)  {c : mm_C} (hf : hO 0 ovU n (bX11_requireTry_21 N   c) Q) : mG Z qX11_requireTry X k w mc ms Q (21, [], [], (n, c)) := by
  unfold bX11_requireTry_21 at hf
  exact mh_throw0 C rfl rfl rfl (Or.inr rfl) rfl rfl (by decide) hRm (by omega) (by omega) (by omega) (Nat.le_of_ble_eq_true rfl) rfl (by omega) hf
def bX11_requireTry_0 (N : Nat)  (v0 : Int32) (v1 : Int32) (c : mm_C) : mR Unit :=
  if v0 < 0 then (bX11_requireTry_21 N  c) else (if (10 : Int32) < v0 then (bX11_requireTry_21 N  c) else (if v1 < (1 : Int32) then (bX11_requireTry_21 N  c) else (if v1 ≤ (9 : Int32) then (some (.inl (), c)) else (bX11_requireTry_21 N  c))))
set_option maxRecDepth 100000 in
theorem wX11_requireTry_0 {Z : mm_Z} {X : mm_T} {k w mc ms d n N : Nat} {Q : mm_O → mm_H → Prop} (C : mm_Ok Z qX11_requireTry X) (hRm : mt_R X = mm_rm d mc ms) (hd : 7 ≤ d) (hn : n + 1 < 1000000) (hk : k + 1 ≤ mc) (hw : w + 6 ≤ ms) {v0 : Int32} {v1 : Int32} {c : mm_C} (hf : hO 0 ovU n (bX11_requireTry_0 N  v0 v1 c) Q) : mG Z qX11_requireTry X k w mc ms Q (0, [(0, .int v0), (1, .int v1)], [], (n, c)) := by
  unfold bX11_requireTry_0 at hf
  refine mg_iload_n C rfl rfl ?_
  refine mh_if_lt C rfl hf (fun e_1 hf => ?_) (fun e_1 hf => ?_)
  · refine mg_sub (lv' := []) (by simp) ?_
    exact wX11_requireTry_21 C hRm hd hn hk hw hf
  · refine mg_iload_n C rfl rfl ?_
    refine mg_bipush (v := 10) C rfl (by decide) ?_
    refine mh_icmp_gt C rfl hf (fun e_7 hf => ?_) (fun e_7 hf => ?_)
    · refine mg_sub (lv' := []) (by simp) ?_
      exact wX11_requireTry_21 C hRm hd hn hk hw hf
    · refine mg_iload_n C rfl rfl ?_
      refine mg_iconst (v := 1) C rfl (by decide) ?_
      refine mh_icmp_lt C rfl hf (fun e_12 hf => ?_) (fun e_12 hf => ?_)
      · refine mg_sub (lv' := []) (by simp) ?_
        exact wX11_requireTry_21 C hRm hd hn hk hw hf
      · refine mg_iload_n C rfl rfl ?_
        refine mg_bipush (v := 9) C rfl (by decide) ?_
        refine mh_icmp_le C rfl hf (fun e_18 hf => ?_) (fun e_18 hf => ?_)
        · exact mh_return C rfl (by omega) (by omega) rfl hf
        · refine mg_sub (lv' := []) (by simp) ?_
          exact wX11_requireTry_21 C hRm hd hn hk hw hf
def fX11_requireTry (N : Nat) (v0 : Int32) (v1 : Int32) (c : mm_C) : mR Unit := bX11_requireTry_0 N v0 v1 c
set_option maxRecDepth 100000 in
theorem wX11_requireTry {Z : mm_Z} {d n N : Nat} (hd : 7 ≤ d) (hn : n + 1 < 1000000) {v0 : Int32} {v1 : Int32} {c : mm_C} (hs : (fX11_requireTry N v0 v1 c).isSome = true) : mC Z qX11_requireTry d 1 6 [.int v0, .int v1] (n, c) (mP 0 ovU n (fX11_requireTry N v0 v1 c)) := by
  refine mC_of gX11_requireTry (by decide +kernel) (Nat.le_of_ble_eq_true rfl) fun X C hRm => ?_
  have hf := hO_mP 0 ovU n hs
  have hk : 0 + 1 ≤ 1 := Nat.le_of_ble_eq_true rfl
  have hw : 0 + 6 ≤ 6 := Nat.le_of_ble_eq_true rfl
  show mG _ _ _ _ _ _ _ _ (0, [(0, .int v0), (1, .int v1)], [], (n, c))
  exact wX11_requireTry_0 C hRm hd hn hk hw hf
def bX11_lasts_36 (N : Nat)  (v4 : Int64) (v6 : Int64) (s0 : Int64) (c : mm_C) : mR Int64 :=
  cS (fX11_lowered N s0 v4 v6 c) fun r1 c2 => some (.inl r1, c2)
set_option maxRecDepth 100000 in
theorem wX11_lasts_36 {Z : mm_Z} {X : mm_T} {k w mc ms d n N : Nat} {Q : mm_O → mm_H → Prop} (C : mm_Ok Z qX11_lasts X) (hRm : mt_R X = mm_rm d mc ms) (hd : 8 ≤ d) (hn : n + 1 < 1000000) (hk : k + 1 ≤ mc) (hw : w + 6 ≤ ms) {v4 : Int64} {v6 : Int64} {s0 : Int64} {c : mm_C} (hf : hO 0 ovL n (bX11_lasts_36 N  v4 v6 s0 c) Q) : mG Z qX11_lasts X k w mc ms Q (36, [(4, .long v4), (6, .long v6)], [.long s0], (n, c)) := by
  unfold bX11_lasts_36 at hf
  refine mg_lload C rfl rfl ?_
  refine mg_lload C rfl rfl ?_
  refine mh_cSL (M' := qX11_lowered) C rfl rfl aX11_lowered tX11_lowered hRm (by omega) (by decide) (by omega) (by omega) rfl rfl (Nat.le_of_ble_eq_true rfl) rfl hf (fun hs => wX11_lowered (by omega) (by omega) hs) (fun r1 c2 hf => ?_)
  exact mh_lreturn C rfl (by omega) (by omega) rfl hf
def bX11_lasts_0 (N : Nat)  (v1 : Int32) (v2 : Int32) (v3 : Int32) (c : mm_C) : mR Int64 :=
  cS (fX11_requireWhat N v3 (1 : Int32) c) fun (_ : Unit) c1 => cS (fX11_requireTry N v1 v2 c1) fun (_ : Unit) c2 => cS (fX11_power N v1 v2 c2) fun r3 c4 => cS (fX11_power N (10 : Int32) v2 c4) fun r5 c6 => if ¬ v3 = 0 then (bX11_lasts_36 N  r3 r5 r5 c6) else (bX11_lasts_36 N  r3 r5 r3 c6)
set_option maxRecDepth 100000 in
theorem wX11_lasts_0 {Z : mm_Z} {X : mm_T} {k w mc ms d n N : Nat} {Q : mm_O → mm_H → Prop} (C : mm_Ok Z qX11_lasts X) (hRm : mt_R X = mm_rm d mc ms) (hd : 8 ≤ d) (hn : n + 1 < 1000000) (hk : k + 1 ≤ mc) (hw : w + 6 ≤ ms) {v1 : Int32} {v2 : Int32} {v3 : Int32} {c : mm_C} (hf : hO 0 ovL n (bX11_lasts_0 N  v1 v2 v3 c) Q) : mG Z qX11_lasts X k w mc ms Q (0, [(1, .int v1), (2, .int v2), (3, .int v3)], [], (n, c)) := by
  unfold bX11_lasts_0 at hf
  refine mg_iload_n C rfl rfl ?_
  refine mg_iconst (v := 1) C rfl (by decide) ?_
  refine mh_cSU (M' := qX11_requireWhat) C rfl rfl aX11_requireWhat tX11_requireWhat hRm (by omega) (by decide) (by omega) (by omega) rfl rfl (Nat.le_of_ble_eq_true rfl) rfl hf (fun hs => wX11_requireWhat (by omega) (by omega) hs) (fun c1 hf => ?_)
  refine mg_iload_n C rfl rfl ?_
  refine mg_iload_n C rfl rfl ?_
  refine mh_cSU (M' := qX11_requireTry) C rfl rfl aX11_requireTry tX11_requireTry hRm (by omega) (by decide) (by omega) (by omega) rfl rfl (Nat.le_of_ble_eq_true rfl) rfl hf (fun hs => wX11_requireTry (by omega) (by omega) hs) (fun c2 hf => ?_)
  refine mg_iload_n C rfl rfl ?_
  refine mg_iload_n C rfl rfl ?_
  refine mh_cSL (M' := qX11_power) C rfl rfl aX11_power tX11_power hRm (by omega) (by decide) (by omega) (by omega) rfl rfl (Nat.le_of_ble_eq_true rfl) rfl hf (fun hs => wX11_power (by omega) (by omega) hs) (fun r3 c4 hf => ?_)
  refine mg_lstore (lv' := [(1, .int v1), (2, .int v2), (3, .int v3), (4, .long r3)]) C rfl (Nat.le_of_ble_eq_true rfl) rfl ?_
  refine mg_bipush (v := 10) C rfl (by decide) ?_
  refine mg_iload_n C rfl rfl ?_
  refine mh_cSL (M' := qX11_power) C rfl rfl aX11_power tX11_power hRm (by omega) (by decide) (by omega) (by omega) rfl rfl (Nat.le_of_ble_eq_true rfl) rfl hf (fun hs => wX11_power (by omega) (by omega) hs) (fun r5 c6 hf => ?_)
  refine mg_lstore (lv' := [(1, .int v1), (2, .int v2), (3, .int v3), (4, .long r3), (6, .long r5)]) C rfl (Nat.le_of_ble_eq_true rfl) rfl ?_
  refine mg_iload_n C rfl rfl ?_
  refine mh_if_ne C rfl hf (fun e_26 hf => ?_) (fun e_26 hf => ?_)
  · refine mg_lload C rfl rfl ?_
    refine mg_sub (lv' := [(4, .long r3), (6, .long r5)]) (by simp) ?_
    exact wX11_lasts_36 C hRm hd hn hk hw hf
  · refine mg_lload C rfl rfl ?_
    refine mg_goto C rfl ?_
    refine mg_sub (lv' := [(4, .long r3), (6, .long r5)]) (by simp) ?_
    exact wX11_lasts_36 C hRm hd hn hk hw hf
def fX11_lasts (N : Nat) (v0 : Nat) (v1 : Int32) (v2 : Int32) (v3 : Int32) (c : mm_C) : mR Int64 := bX11_lasts_0 N v1 v2 v3 c
set_option maxRecDepth 100000 in
theorem wX11_lasts {Z : mm_Z} {d n N : Nat} (hd : 8 ≤ d) (hn : n + 1 < 1000000) {v0 : Nat} {v1 : Int32} {v2 : Int32} {v3 : Int32} {c : mm_C} (hs : (fX11_lasts N v0 v1 v2 v3 c).isSome = true) : mC Z qX11_lasts d 1 6 [.ref v0, .int v1, .int v2, .int v3] (n, c) (mP 0 ovL n (fX11_lasts N v0 v1 v2 v3 c)) := by
  refine mC_of gX11_lasts (by decide +kernel) (Nat.le_of_ble_eq_true rfl) fun X C hRm => ?_
  have hf := hO_mP 0 ovL n hs
  have hk : 0 + 1 ≤ 1 := Nat.le_of_ble_eq_true rfl
  have hw : 0 + 6 ≤ 6 := Nat.le_of_ble_eq_true rfl
  show mG _ _ _ _ _ _ _ _ (0, [(0, .ref v0), (1, .int v1), (2, .int v2), (3, .int v3)], [], (n, c))
  refine mg_sub (lv' := [(1, .int v1), (2, .int v2), (3, .int v3)]) (by simp) ?_
  exact wX11_lasts_0 C hRm hd hn hk hw hf
def bX11_trial_110 (N : Nat)  (v5 : Int64) (c : mm_C) : mR Int64 :=
  some (.inl v5, c)
set_option maxRecDepth 100000 in
theorem wX11_trial_110 {Z : mm_Z} {X : mm_T} {k w mc ms d n N : Nat} {Q : mm_O → mm_H → Prop} (C : mm_Ok Z qX11_trial X) (hRm : mt_R X = mm_rm d mc ms) (hd : 8 ≤ d) (hn : n + 1 < 1000000) (hk : k + 1 ≤ mc) (hw : w + 6 ≤ ms) {v5 : Int64} {c : mm_C} (hf : hO 0 ovL n (bX11_trial_110 N  v5 c) Q) : mG Z qX11_trial X k w mc ms Q (110, [(5, .long v5)], [], (n, c)) := by
  unfold bX11_trial_110 at hf
  refine mg_lload C rfl rfl ?_
  exact mh_lreturn C rfl (by omega) (by omega) rfl hf
def bX11_trial_57 (N : Nat)  (k57 : Int32 → Int32 → Int32 → Int64 → Int32 → mm_C → mR Int64) (v1 : Int32) (v2 : Int32) (v4 : Int32) (v5 : Int64) (v7 : Int32) (c : mm_C) : mR Int64 :=
  if v2 < v7 then (bX11_trial_110 N  v5 c) else (cS (fX11_power N v1 (v7 - (1 : Int32)) c) fun r1 c2 => cS (fX11_power N (10 : Int32) (v2 - v7) c2) fun r3 c4 => k57 v1 v2 v4 (v5 - ((((r1 * ((10 : Int32) - v1).toInt64) * r3) * v4.toInt64) * v7.toInt64)) (v7 + 1) c4)
set_option maxRecDepth 100000 in
theorem wX11_trial_57 {Z : mm_Z} {X : mm_T} {k w mc ms d n N : Nat} {Q : mm_O → mm_H → Prop} (C : mm_Ok Z qX11_trial X) (hRm : mt_R X = mm_rm d mc ms) (hd : 8 ≤ d) (hn : n + 1 < 1000000) (hk : k + 1 ≤ mc) (hw : w + 6 ≤ ms) {k57 : Int32 → Int32 → Int32 → Int64 → Int32 → mm_C → mR Int64} (hk57 : ∀ (v1 : Int32) (v2 : Int32) (v4 : Int32) (v5 : Int64) (v7 : Int32) (c : mm_C), hO 0 ovL n (k57 v1 v2 v4 v5 v7 c) Q → mG Z qX11_trial X k w mc ms Q (57, [(1, .int v1), (2, .int v2), (4, .int v4), (5, .long v5), (7, .int v7)], [], (n, c))) {v1 : Int32} {v2 : Int32} {v4 : Int32} {v5 : Int64} {v7 : Int32} {c : mm_C} (hf : hO 0 ovL n (bX11_trial_57 N  k57 v1 v2 v4 v5 v7 c) Q) : mG Z qX11_trial X k w mc ms Q (57, [(1, .int v1), (2, .int v2), (4, .int v4), (5, .long v5), (7, .int v7)], [], (n, c)) := by
  unfold bX11_trial_57 at hf
  refine mg_iload C rfl rfl ?_
  refine mg_iload_n C rfl rfl ?_
  refine mh_icmp_gt C rfl hf (fun e_60 hf => ?_) (fun e_60 hf => ?_)
  · refine mg_sub (lv' := [(5, .long v5)]) (by simp) ?_
    exact wX11_trial_110 C hRm hd hn hk hw hf
  · refine mg_iload_n C rfl rfl ?_
    refine mg_iload C rfl rfl ?_
    refine mg_iconst (v := 1) C rfl (by decide) ?_
    refine mg_isub C rfl ?_
    refine mh_cSL (M' := qX11_power) C rfl rfl aX11_power tX11_power hRm (by omega) (by decide) (by omega) (by omega) rfl rfl (Nat.le_of_ble_eq_true rfl) rfl hf (fun hs => wX11_power (by omega) (by omega) hs) (fun r1 c2 hf => ?_)
    refine mg_bipush (v := 10) C rfl (by decide) ?_
    refine mg_iload_n C rfl rfl ?_
    refine mg_isub C rfl ?_
    refine mg_i2l C rfl ?_
    refine mg_lmul C rfl ?_
    refine mg_bipush (v := 10) C rfl (by decide) ?_
    refine mg_iload_n C rfl rfl ?_
    refine mg_iload C rfl rfl ?_
    refine mg_isub C rfl ?_
    refine mh_cSL (M' := qX11_power) C rfl rfl aX11_power tX11_power hRm (by omega) (by decide) (by omega) (by omega) rfl rfl (Nat.le_of_ble_eq_true rfl) rfl hf (fun hs => wX11_power (by omega) (by omega) hs) (fun r3 c4 hf => ?_)
    refine mg_lmul C rfl ?_
    refine mg_lstore (lv' := [(1, .int v1), (2, .int v2), (4, .int v4), (5, .long v5), (7, .int v7), (8, .long ((r1 * ((10 : Int32) - v1).toInt64) * r3))]) C rfl (Nat.le_of_ble_eq_true rfl) rfl ?_
    refine mg_lload C rfl rfl ?_
    refine mg_lload C rfl rfl ?_
    refine mg_iload C rfl rfl ?_
    refine mg_i2l C rfl ?_
    refine mg_lmul C rfl ?_
    refine mg_iload C rfl rfl ?_
    refine mg_i2l C rfl ?_
    refine mg_lmul C rfl ?_
    refine mg_lsub C rfl ?_
    refine mg_lstore (lv' := [(1, .int v1), (2, .int v2), (4, .int v4), (5, .long (v5 - ((((r1 * ((10 : Int32) - v1).toInt64) * r3) * v4.toInt64) * v7.toInt64))), (7, .int v7), (8, .long ((r1 * ((10 : Int32) - v1).toInt64) * r3))]) C rfl (Nat.le_of_ble_eq_true rfl) rfl ?_
    refine mg_iinc (lv' := [(1, .int v1), (2, .int v2), (4, .int v4), (5, .long (v5 - ((((r1 * ((10 : Int32) - v1).toInt64) * r3) * v4.toInt64) * v7.toInt64))), (7, .int (v7 + 1)), (8, .long ((r1 * ((10 : Int32) - v1).toInt64) * r3))]) C rfl (Nat.le_of_ble_eq_true rfl) rfl (show _ + Int32.ofInt 1 = _ + 1 by congr 1) rfl ?_
    refine mg_goto C rfl ?_
    refine mg_sub (lv' := [(1, .int v1), (2, .int v2), (4, .int v4), (5, .long (v5 - ((((r1 * ((10 : Int32) - v1).toInt64) * r3) * v4.toInt64) * v7.toInt64))), (7, .int (v7 + 1))]) (by simp) ?_
    exact hk57 _ _ _ _ _ _ hf
def lX11_trial_57 (N : Nat)  : Nat → Int32 → Int32 → Int32 → Int64 → Int32 → mm_C → mR Int64
  | 0, _, _, _, _, _, _ => none
  | m + 1, v1, v2, v4, v5, v7, c => bX11_trial_57 N  (lX11_trial_57 N  m) v1 v2 v4 v5 v7 c
theorem WX11_trial_57 {Z : mm_Z} {X : mm_T} {k w mc ms d n N : Nat} {Q : mm_O → mm_H → Prop} (C : mm_Ok Z qX11_trial X) (hRm : mt_R X = mm_rm d mc ms) (hd : 8 ≤ d) (hn : n + 1 < 1000000) (hk : k + 1 ≤ mc) (hw : w + 6 ≤ ms) : ∀ (m : Nat) {v1 : Int32} {v2 : Int32} {v4 : Int32} {v5 : Int64} {v7 : Int32} {c : mm_C} (hf : hO 0 ovL n (lX11_trial_57 N  m v1 v2 v4 v5 v7 c) Q), mG Z qX11_trial X k w mc ms Q (57, [(1, .int v1), (2, .int v2), (4, .int v4), (5, .long v5), (7, .int v7)], [], (n, c)) := by
  intro m
  induction m with
  | zero => intro v1 v2 v4 v5 v7 c hf; exact absurd hf hO_none
  | succ m ih => intro v1 v2 v4 v5 v7 c hf; exact wX11_trial_57 C hRm hd hn hk hw (fun v1 v2 v4 v5 v7 c hf => ih hf) hf
def bX11_trial_28 (N : Nat)   (c : mm_C) : mR Int64 :=
  some (.inr 0, c)
set_option maxRecDepth 100000 in
theorem wX11_trial_28 {Z : mm_Z} {X : mm_T} {k w mc ms d n N : Nat} {Q : mm_O → mm_H → Prop} (C : mm_Ok Z qX11_trial X) (hRm : mt_R X = mm_rm d mc ms) (hd : 8 ≤ d) (hn : n + 1 < 1000000) (hk : k + 1 ≤ mc) (hw : w + 6 ≤ ms)  {c : mm_C} (hf : hO 0 ovL n (bX11_trial_28 N   c) Q) : mG Z qX11_trial X k w mc ms Q (28, [], [], (n, c)) := by
  unfold bX11_trial_28 at hf
  exact mh_throw0 C rfl rfl rfl (Or.inr rfl) rfl rfl (by decide) hRm (by omega) (by omega) (by omega) (Nat.le_of_ble_eq_true rfl) rfl (by omega) hf
def bX11_trial_0 (N : Nat)  (v1 : Int32) (v2 : Int32) (v3 : Int32) (v4 : Int32) (c : mm_C) : mR Int64 :=
  cS (fX11_requireTry N v1 v2 c) fun (_ : Unit) c1 => if v3 < 0 then (bX11_trial_28 N  c1) else (if (999 : Int32) < v3 then (bX11_trial_28 N  c1) else (if v4 < 0 then (bX11_trial_28 N  c1) else (if v4 ≤ (99 : Int32) then (cS (fX11_power N v1 v2 c1) fun r2 c3 => lX11_trial_57 N  N v1 v2 v4 (r2 * (v3 - (v4 * v2)).toInt64) (1 : Int32) c3) else (bX11_trial_28 N  c1))))
set_option maxRecDepth 100000 in
theorem wX11_trial_0 {Z : mm_Z} {X : mm_T} {k w mc ms d n N : Nat} {Q : mm_O → mm_H → Prop} (C : mm_Ok Z qX11_trial X) (hRm : mt_R X = mm_rm d mc ms) (hd : 8 ≤ d) (hn : n + 1 < 1000000) (hk : k + 1 ≤ mc) (hw : w + 6 ≤ ms) {v1 : Int32} {v2 : Int32} {v3 : Int32} {v4 : Int32} {c : mm_C} (hf : hO 0 ovL n (bX11_trial_0 N  v1 v2 v3 v4 c) Q) : mG Z qX11_trial X k w mc ms Q (0, [(1, .int v1), (2, .int v2), (3, .int v3), (4, .int v4)], [], (n, c)) := by
  unfold bX11_trial_0 at hf
  refine mg_iload_n C rfl rfl ?_
  refine mg_iload_n C rfl rfl ?_
  refine mh_cSU (M' := qX11_requireTry) C rfl rfl aX11_requireTry tX11_requireTry hRm (by omega) (by decide) (by omega) (by omega) rfl rfl (Nat.le_of_ble_eq_true rfl) rfl hf (fun hs => wX11_requireTry (by omega) (by omega) hs) (fun c1 hf => ?_)
  refine mg_iload_n C rfl rfl ?_
  refine mh_if_lt C rfl hf (fun e_6 hf => ?_) (fun e_6 hf => ?_)
  · refine mg_sub (lv' := []) (by simp) ?_
    exact wX11_trial_28 C hRm hd hn hk hw hf
  · refine mg_iload_n C rfl rfl ?_
    refine mg_sipush (v := 999) C rfl (by decide) ?_
    refine mh_icmp_gt C rfl hf (fun e_13 hf => ?_) (fun e_13 hf => ?_)
    · refine mg_sub (lv' := []) (by simp) ?_
      exact wX11_trial_28 C hRm hd hn hk hw hf
    · refine mg_iload C rfl rfl ?_
      refine mh_if_lt C rfl hf (fun e_18 hf => ?_) (fun e_18 hf => ?_)
      · refine mg_sub (lv' := []) (by simp) ?_
        exact wX11_trial_28 C hRm hd hn hk hw hf
      · refine mg_iload C rfl rfl ?_
        refine mg_bipush (v := 99) C rfl (by decide) ?_
        refine mh_icmp_le C rfl hf (fun e_25 hf => ?_) (fun e_25 hf => ?_)
        · refine mg_iload_n C rfl rfl ?_
          refine mg_iload_n C rfl rfl ?_
          refine mh_cSL (M' := qX11_power) C rfl rfl aX11_power tX11_power hRm (by omega) (by decide) (by omega) (by omega) rfl rfl (Nat.le_of_ble_eq_true rfl) rfl hf (fun hs => wX11_power (by omega) (by omega) hs) (fun r2 c3 hf => ?_)
          refine mg_iload_n C rfl rfl ?_
          refine mg_iload C rfl rfl ?_
          refine mg_iload_n C rfl rfl ?_
          refine mg_imul C rfl ?_
          refine mg_isub C rfl ?_
          refine mg_i2l C rfl ?_
          refine mg_lmul C rfl ?_
          refine mg_lstore (lv' := [(1, .int v1), (2, .int v2), (3, .int v3), (4, .int v4), (5, .long (r2 * (v3 - (v4 * v2)).toInt64))]) C rfl (Nat.le_of_ble_eq_true rfl) rfl ?_
          refine mg_iconst (v := 1) C rfl (by decide) ?_
          refine mg_istore (lv' := [(1, .int v1), (2, .int v2), (3, .int v3), (4, .int v4), (5, .long (r2 * (v3 - (v4 * v2)).toInt64)), (7, .int (1 : Int32))]) C rfl (Nat.le_of_ble_eq_true rfl) rfl ?_
          refine mg_sub (lv' := [(1, .int v1), (2, .int v2), (4, .int v4), (5, .long (r2 * (v3 - (v4 * v2)).toInt64)), (7, .int (1 : Int32))]) (by simp) ?_
          exact WX11_trial_57 C hRm hd hn hk hw N hf
        · refine mg_sub (lv' := []) (by simp) ?_
          exact wX11_trial_28 C hRm hd hn hk hw hf
def fX11_trial (N : Nat) (v0 : Nat) (v1 : Int32) (v2 : Int32) (v3 : Int32) (v4 : Int32) (c : mm_C) : mR Int64 := bX11_trial_0 N v1 v2 v3 v4 c
set_option maxRecDepth 100000 in
theorem wX11_trial {Z : mm_Z} {d n N : Nat} (hd : 8 ≤ d) (hn : n + 1 < 1000000) {v0 : Nat} {v1 : Int32} {v2 : Int32} {v3 : Int32} {v4 : Int32} {c : mm_C} (hs : (fX11_trial N v0 v1 v2 v3 v4 c).isSome = true) : mC Z qX11_trial d 1 6 [.ref v0, .int v1, .int v2, .int v3, .int v4] (n, c) (mP 0 ovL n (fX11_trial N v0 v1 v2 v3 v4 c)) := by
  refine mC_of gX11_trial (by decide +kernel) (Nat.le_of_ble_eq_true rfl) fun X C hRm => ?_
  have hf := hO_mP 0 ovL n hs
  have hk : 0 + 1 ≤ 1 := Nat.le_of_ble_eq_true rfl
  have hw : 0 + 6 ≤ 6 := Nat.le_of_ble_eq_true rfl
  show mG _ _ _ _ _ _ _ _ (0, [(0, .ref v0), (1, .int v1), (2, .int v2), (3, .int v3), (4, .int v4)], [], (n, c))
  refine mg_sub (lv' := [(1, .int v1), (2, .int v2), (3, .int v3), (4, .int v4)]) (by simp) ?_
  exact wX11_trial_0 C hRm hd hn hk hw hf
def bX11_see_28 (N : Nat)  (v0 : Nat) (c : mm_C) : mR Int32 :=
  Option.bind (gR c v0 11 6) fun x1 => Option.bind (gR c x1 5 7) fun x2 => Option.bind (aI c x2 (2 : Int32)) fun x3 => Option.bind (tI c x2 (2 : Int32) (x3 + (1 : Int32))) fun c4 => some (.inl (-1 : Int32), c4)
set_option maxRecDepth 100000 in
theorem wX11_see_28 {Z : mm_Z} {X : mm_T} {k w mc ms d n N : Nat} {Q : mm_O → mm_H → Prop} (C : mm_Ok Z qX11_see X) (hRm : mt_R X = mm_rm d mc ms) (hd : 8 ≤ d) (hn : n + 1 < 1000000) (hk : k + 1 ≤ mc) (hw : w + 6 ≤ ms) {v0 : Nat} {c : mm_C} (hf : hO 0 ovI n (bX11_see_28 N  v0 c) Q) : mG Z qX11_see X k w mc ms Q (28, [(0, .ref v0)], [], (n, c)) := by
  unfold bX11_see_28 at hf
  refine mg_aload_n C rfl rfl ?_
  refine mh_gR C rfl rfl rfl (by decide) hf (fun x1 hf => ?_)
  refine mh_gR C rfl rfl rfl (by decide) hf (fun x2 hf => ?_)
  refine mg_iconst (v := 2) C rfl (by decide) ?_
  refine mg_dup2 C rfl rfl rfl ?_
  refine mh_aI C rfl hf (fun x3 hf => ?_)
  refine mg_iconst (v := 1) C rfl (by decide) ?_
  refine mg_iadd C rfl ?_
  refine mh_tI C rfl hf (fun c4 hf => ?_)
  refine mg_iconst (v := (-1)) C rfl (by decide) ?_
  exact mh_ireturn C rfl (by omega) (by omega) rfl hf
def bX11_see_0 (N : Nat)  (v0 : Nat) (v1 : Int32) (v2 : Int32) (v3 : Int32) (c : mm_C) : mR Int32 :=
  cV 11 v0 c (fX11_requireShot N v0 v1 c) fun (_ : Unit) c1 => if v2 < 0 then (bX11_see_28 N  v0 c1) else (if (480 : Int32) ≤ v2 then (bX11_see_28 N  v0 c1) else (Option.bind (gR c1 v0 11 6) fun x2 => Option.bind (gI c1 x2 5 6) fun x3 => if x3 < (8 : Int32) then (Option.bind (gR c1 v0 11 6) fun x4 => cV 5 x4 c1 (fX5_keepSeen N x4 v1 v2 v3 c1) fun (_ : Unit) c5 => Option.bind (gR c5 v0 11 6) fun x6 => Option.bind (gI c5 x6 5 6) fun x7 => some (.inl x7, c5)) else (bX11_see_28 N  v0 c1)))
set_option maxRecDepth 100000 in
theorem wX11_see_0 {Z : mm_Z} {X : mm_T} {k w mc ms d n N : Nat} {Q : mm_O → mm_H → Prop} (C : mm_Ok Z qX11_see X) (hRm : mt_R X = mm_rm d mc ms) (hd : 8 ≤ d) (hn : n + 1 < 1000000) (hk : k + 1 ≤ mc) (hw : w + 6 ≤ ms) {v0 : Nat} {v1 : Int32} {v2 : Int32} {v3 : Int32} {c : mm_C} (hf : hO 0 ovI n (bX11_see_0 N  v0 v1 v2 v3 c) Q) : mG Z qX11_see X k w mc ms Q (0, [(0, .ref v0), (1, .int v1), (2, .int v2), (3, .int v3)], [], (n, c)) := by
  unfold bX11_see_0 at hf
  refine mg_aload_n C rfl rfl ?_
  refine mg_iload_n C rfl rfl ?_
  refine mh_cVU (M' := qX11_requireShot) C rfl rfl aX11_requireShot iX11_requireShot sX11_requireShot hRm (by omega) (by decide) (by omega) (by omega) rfl rfl rfl (Nat.le_of_ble_eq_true rfl) rfl hf (fun hs => wX11_requireShot (by omega) (by omega) hs) (fun c1 hf => ?_)
  refine mg_iload_n C rfl rfl ?_
  refine mh_if_lt C rfl hf (fun e_6 hf => ?_) (fun e_6 hf => ?_)
  · refine mg_sub (lv' := [(0, .ref v0)]) (by simp) ?_
    exact wX11_see_28 C hRm hd hn hk hw hf
  · refine mg_iload_n C rfl rfl ?_
    refine mg_sipush (v := 480) C rfl (by decide) ?_
    refine mh_icmp_ge C rfl hf (fun e_13 hf => ?_) (fun e_13 hf => ?_)
    · refine mg_sub (lv' := [(0, .ref v0)]) (by simp) ?_
      exact wX11_see_28 C hRm hd hn hk hw hf
    · refine mg_aload_n C rfl rfl ?_
      refine mh_gR C rfl rfl rfl (by decide) hf (fun x2 hf => ?_)
      refine mh_gI C rfl rfl rfl (by decide) hf (fun x3 hf => ?_)
      refine mg_bipush (v := 8) C rfl (by decide) ?_
      refine mh_icmp_lt C rfl hf (fun e_25 hf => ?_) (fun e_25 hf => ?_)
      · refine mg_aload_n C rfl rfl ?_
        refine mh_gR C rfl rfl rfl (by decide) hf (fun x4 hf => ?_)
        refine mg_iload_n C rfl rfl ?_
        refine mg_iload_n C rfl rfl ?_
        refine mg_iload_n C rfl rfl ?_
        refine mh_cVU (M' := qX5_keepSeen) C rfl rfl aX5_keepSeen iX5_keepSeen sX5_keepSeen hRm (by omega) (by decide) (by omega) (by omega) rfl rfl rfl (Nat.le_of_ble_eq_true rfl) rfl hf (fun hs => wX5_keepSeen (by omega) (by omega) hs) (fun c5 hf => ?_)
        refine mg_aload_n C rfl rfl ?_
        refine mh_gR C rfl rfl rfl (by decide) hf (fun x6 hf => ?_)
        refine mh_gI C rfl rfl rfl (by decide) hf (fun x7 hf => ?_)
        exact mh_ireturn C rfl (by omega) (by omega) rfl hf
      · refine mg_sub (lv' := [(0, .ref v0)]) (by simp) ?_
        exact wX11_see_28 C hRm hd hn hk hw hf
def fX11_see (N : Nat) (v0 : Nat) (v1 : Int32) (v2 : Int32) (v3 : Int32) (c : mm_C) : mR Int32 := bX11_see_0 N v0 v1 v2 v3 c
set_option maxRecDepth 100000 in
theorem wX11_see {Z : mm_Z} {d n N : Nat} (hd : 8 ≤ d) (hn : n + 1 < 1000000) {v0 : Nat} {v1 : Int32} {v2 : Int32} {v3 : Int32} {c : mm_C} (hs : (fX11_see N v0 v1 v2 v3 c).isSome = true) : mC Z qX11_see d 1 6 [.ref v0, .int v1, .int v2, .int v3] (n, c) (mP 0 ovI n (fX11_see N v0 v1 v2 v3 c)) := by
  refine mC_of gX11_see (by decide +kernel) (Nat.le_of_ble_eq_true rfl) fun X C hRm => ?_
  have hf := hO_mP 0 ovI n hs
  have hk : 0 + 1 ≤ 1 := Nat.le_of_ble_eq_true rfl
  have hw : 0 + 6 ≤ 6 := Nat.le_of_ble_eq_true rfl
  show mG _ _ _ _ _ _ _ _ (0, [(0, .ref v0), (1, .int v1), (2, .int v2), (3, .int v3)], [], (n, c))
  exact wX11_see_0 C hRm hd hn hk hw hf
def bX11_agreesWithSeen_81 (N : Nat)  (k21 : Nat → Int32 → mm_C → mR Int32) (v0 : Nat) (v2 : Int32) (s0 : Int32) (c : mm_C) : mR Int32 :=
  Option.bind (gR c v0 11 6) fun x1 => Option.bind (gR c x1 5 5) fun x2 => Option.bind (aZ c x2 v2) fun x3 => if s0 = x3 then (k21 v0 (v2 + 1) c) else (rZ (0 : Int32) c)
set_option maxRecDepth 100000 in
theorem wX11_agreesWithSeen_81 {Z : mm_Z} {X : mm_T} {k w mc ms d n N : Nat} {Q : mm_O → mm_H → Prop} (C : mm_Ok Z qX11_agreesWithSeen X) (hRm : mt_R X = mm_rm d mc ms) (hd : 6 ≤ d) (hn : n + 1 < 1000000) (hk : k + 1 ≤ mc) (hw : w + 6 ≤ ms) {k21 : Nat → Int32 → mm_C → mR Int32} (hk21 : ∀ (v0 : Nat) (v2 : Int32) (c : mm_C), hO 0 ovI n (k21 v0 v2 c) Q → mG Z qX11_agreesWithSeen X k w mc ms Q (21, [(0, .ref v0), (2, .int v2)], [], (n, c))) {v0 : Nat} {v2 : Int32} {s0 : Int32} {c : mm_C} (hf : hO 0 ovI n (bX11_agreesWithSeen_81 N  k21 v0 v2 s0 c) Q) : mG Z qX11_agreesWithSeen X k w mc ms Q (81, [(0, .ref v0), (2, .int v2)], [.int s0], (n, c)) := by
  unfold bX11_agreesWithSeen_81 at hf
  refine mg_istore (lv' := [(0, .ref v0), (2, .int v2), (4, .int s0)]) C rfl (Nat.le_of_ble_eq_true rfl) rfl ?_
  refine mg_iload C rfl rfl ?_
  refine mg_aload_n C rfl rfl ?_
  refine mh_gR C rfl rfl rfl (by decide) hf (fun x1 hf => ?_)
  refine mh_gR C rfl rfl rfl (by decide) hf (fun x2 hf => ?_)
  refine mg_iload_n C rfl rfl ?_
  refine mh_aZ C rfl hf (fun x3 hf => ?_)
  refine mh_icmp_eq C rfl hf (fun e_94 hf => ?_) (fun e_94 hf => ?_)
  · refine mg_iinc (lv' := [(0, .ref v0), (2, .int (v2 + 1)), (4, .int s0)]) C rfl (Nat.le_of_ble_eq_true rfl) rfl (show _ + Int32.ofInt 1 = _ + 1 by congr 1) rfl ?_
    refine mg_goto C rfl ?_
    refine mg_sub (lv' := [(0, .ref v0), (2, .int (v2 + 1))]) (by simp) ?_
    exact hk21 _ _ _ hf
  · refine mg_iconst (v := 0) C rfl (by decide) ?_
    exact mh_zreturn C rfl (by omega) (by omega) rfl hf
def bX11_agreesWithSeen_76 (N : Nat)  (k21 : Nat → Int32 → mm_C → mR Int32) (v0 : Nat) (v2 : Int32) (c : mm_C) : mR Int32 :=
  bX11_agreesWithSeen_81 N  k21 v0 v2 (1 : Int32) c
set_option maxRecDepth 100000 in
theorem wX11_agreesWithSeen_76 {Z : mm_Z} {X : mm_T} {k w mc ms d n N : Nat} {Q : mm_O → mm_H → Prop} (C : mm_Ok Z qX11_agreesWithSeen X) (hRm : mt_R X = mm_rm d mc ms) (hd : 6 ≤ d) (hn : n + 1 < 1000000) (hk : k + 1 ≤ mc) (hw : w + 6 ≤ ms) {k21 : Nat → Int32 → mm_C → mR Int32} (hk21 : ∀ (v0 : Nat) (v2 : Int32) (c : mm_C), hO 0 ovI n (k21 v0 v2 c) Q → mG Z qX11_agreesWithSeen X k w mc ms Q (21, [(0, .ref v0), (2, .int v2)], [], (n, c))) {v0 : Nat} {v2 : Int32} {c : mm_C} (hf : hO 0 ovI n (bX11_agreesWithSeen_76 N  k21 v0 v2 c) Q) : mG Z qX11_agreesWithSeen X k w mc ms Q (76, [(0, .ref v0), (2, .int v2)], [], (n, c)) := by
  unfold bX11_agreesWithSeen_76 at hf
  refine mg_iconst (v := 1) C rfl (by decide) ?_
  refine mg_goto C rfl ?_
  exact wX11_agreesWithSeen_81 C hRm hd hn hk hw hk21 hf
def bX11_agreesWithSeen_21 (N : Nat)  (k21 : Nat → Int32 → mm_C → mR Int32) (v0 : Nat) (v2 : Int32) (c : mm_C) : mR Int32 :=
  Option.bind (gR c v0 11 6) fun x1 => Option.bind (gI c x1 5 6) fun x2 => if x2 ≤ v2 then (rZ (1 : Int32) c) else (Option.bind (gR c v0 11 6) fun x3 => Option.bind (gR c x3 5 3) fun x4 => Option.bind (aI c x4 v2) fun x5 => Option.bind (gR c v0 11 6) fun x6 => Option.bind (gR c x6 5 0) fun x7 => cV 9 x7 c (fX9_isHad N x7 x5 c) fun r8 c9 => if ¬ r8 = 0 then (bX11_agreesWithSeen_76 N  k21 v0 v2 c9) else (Option.bind (gR c9 v0 11 11) fun x10 => Option.bind (gR c9 v0 11 6) fun x11 => Option.bind (gR c9 x11 5 4) fun x12 => Option.bind (aI c9 x12 v2) fun x13 => cV 0 x10 c9 (fX0_isHadBy N x10 x5 x13 c9) fun r14 c15 => if r14 = 0 then (bX11_agreesWithSeen_81 N  k21 v0 v2 (0 : Int32) c15) else (bX11_agreesWithSeen_76 N  k21 v0 v2 c15)))
set_option maxRecDepth 100000 in
theorem wX11_agreesWithSeen_21 {Z : mm_Z} {X : mm_T} {k w mc ms d n N : Nat} {Q : mm_O → mm_H → Prop} (C : mm_Ok Z qX11_agreesWithSeen X) (hRm : mt_R X = mm_rm d mc ms) (hd : 6 ≤ d) (hn : n + 1 < 1000000) (hk : k + 1 ≤ mc) (hw : w + 6 ≤ ms) {k21 : Nat → Int32 → mm_C → mR Int32} (hk21 : ∀ (v0 : Nat) (v2 : Int32) (c : mm_C), hO 0 ovI n (k21 v0 v2 c) Q → mG Z qX11_agreesWithSeen X k w mc ms Q (21, [(0, .ref v0), (2, .int v2)], [], (n, c))) {v0 : Nat} {v2 : Int32} {c : mm_C} (hf : hO 0 ovI n (bX11_agreesWithSeen_21 N  k21 v0 v2 c) Q) : mG Z qX11_agreesWithSeen X k w mc ms Q (21, [(0, .ref v0), (2, .int v2)], [], (n, c)) := by
  unfold bX11_agreesWithSeen_21 at hf
  refine mg_iload_n C rfl rfl ?_
  refine mg_aload_n C rfl rfl ?_
  refine mh_gR C rfl rfl rfl (by decide) hf (fun x1 hf => ?_)
  refine mh_gI C rfl rfl rfl (by decide) hf (fun x2 hf => ?_)
  refine mh_icmp_ge C rfl hf (fun e_29 hf => ?_) (fun e_29 hf => ?_)
  · refine mg_iconst (v := 1) C rfl (by decide) ?_
    exact mh_zreturn C rfl (by omega) (by omega) rfl hf
  · refine mg_aload_n C rfl rfl ?_
    refine mh_gR C rfl rfl rfl (by decide) hf (fun x3 hf => ?_)
    refine mh_gR C rfl rfl rfl (by decide) hf (fun x4 hf => ?_)
    refine mg_iload_n C rfl rfl ?_
    refine mh_aI C rfl hf (fun x5 hf => ?_)
    refine mg_istore_n (lv' := [(0, .ref v0), (2, .int v2), (3, .int x5)]) C rfl (Nat.le_of_ble_eq_true rfl) rfl ?_
    refine mg_aload_n C rfl rfl ?_
    refine mh_gR C rfl rfl rfl (by decide) hf (fun x6 hf => ?_)
    refine mh_gR C rfl rfl rfl (by decide) hf (fun x7 hf => ?_)
    refine mg_iload_n C rfl rfl ?_
    refine mh_cVI (M' := qX9_isHad) C rfl rfl aX9_isHad iX9_isHad sX9_isHad hRm (by omega) (by decide) (by omega) (by omega) rfl rfl rfl (Nat.le_of_ble_eq_true rfl) rfl hf (fun hs => wX9_isHad (by omega) (by omega) hs) (fun r8 c9 hf => ?_)
    refine mh_if_ne C rfl hf (fun e_53 hf => ?_) (fun e_53 hf => ?_)
    · refine mg_sub (lv' := [(0, .ref v0), (2, .int v2)]) (by simp) ?_
      exact wX11_agreesWithSeen_76 C hRm hd hn hk hw hk21 hf
    · refine mg_aload_n C rfl rfl ?_
      refine mh_gR C rfl rfl rfl (by decide) hf (fun x10 hf => ?_)
      refine mg_iload_n C rfl rfl ?_
      refine mg_aload_n C rfl rfl ?_
      refine mh_gR C rfl rfl rfl (by decide) hf (fun x11 hf => ?_)
      refine mh_gR C rfl rfl rfl (by decide) hf (fun x12 hf => ?_)
      refine mg_iload_n C rfl rfl ?_
      refine mh_aI C rfl hf (fun x13 hf => ?_)
      refine mh_cVI (M' := qX0_isHadBy) C rfl rfl aX0_isHadBy iX0_isHadBy sX0_isHadBy hRm (by omega) (by decide) (by omega) (by omega) rfl rfl rfl (Nat.le_of_ble_eq_true rfl) rfl hf (fun hs => wX0_isHadBy (by omega) (by omega) hs) (fun r14 c15 hf => ?_)
      refine mh_if_eq C rfl hf (fun e_73 hf => ?_) (fun e_73 hf => ?_)
      · refine mg_iconst (v := 0) C rfl (by decide) ?_
        refine mg_sub (lv' := [(0, .ref v0), (2, .int v2)]) (by simp) ?_
        exact wX11_agreesWithSeen_81 C hRm hd hn hk hw hk21 hf
      · refine mg_sub (lv' := [(0, .ref v0), (2, .int v2)]) (by simp) ?_
        exact wX11_agreesWithSeen_76 C hRm hd hn hk hw hk21 hf
def lX11_agreesWithSeen_21 (N : Nat)  : Nat → Nat → Int32 → mm_C → mR Int32
  | 0, _, _, _ => none
  | m + 1, v0, v2, c => bX11_agreesWithSeen_21 N  (lX11_agreesWithSeen_21 N  m) v0 v2 c
theorem WX11_agreesWithSeen_21 {Z : mm_Z} {X : mm_T} {k w mc ms d n N : Nat} {Q : mm_O → mm_H → Prop} (C : mm_Ok Z qX11_agreesWithSeen X) (hRm : mt_R X = mm_rm d mc ms) (hd : 6 ≤ d) (hn : n + 1 < 1000000) (hk : k + 1 ≤ mc) (hw : w + 6 ≤ ms) : ∀ (m : Nat) {v0 : Nat} {v2 : Int32} {c : mm_C} (hf : hO 0 ovI n (lX11_agreesWithSeen_21 N  m v0 v2 c) Q), mG Z qX11_agreesWithSeen X k w mc ms Q (21, [(0, .ref v0), (2, .int v2)], [], (n, c)) := by
  intro m
  induction m with
  | zero => intro v0 v2 c hf; exact absurd hf hO_none
  | succ m ih => intro v0 v2 c hf; exact wX11_agreesWithSeen_21 C hRm hd hn hk hw (fun v0 v2 c hf => ih hf) hf
def bX11_agreesWithSeen_0 (N : Nat)  (v0 : Nat) (v1 : Int32) (c : mm_C) : mR Int32 :=
  Option.bind (gR c v0 11 11) fun x1 => Option.bind (gR c v0 11 3) fun x2 => Option.bind (gR c v0 11 6) fun x3 => Option.bind (gR c x3 5 0) fun x4 => cV 0 x1 c (fX0_runs N x1 x2 x4 v1 c) fun (_ : Unit) c5 => lX11_agreesWithSeen_21 N  N v0 (0 : Int32) c5
set_option maxRecDepth 100000 in
theorem wX11_agreesWithSeen_0 {Z : mm_Z} {X : mm_T} {k w mc ms d n N : Nat} {Q : mm_O → mm_H → Prop} (C : mm_Ok Z qX11_agreesWithSeen X) (hRm : mt_R X = mm_rm d mc ms) (hd : 6 ≤ d) (hn : n + 1 < 1000000) (hk : k + 1 ≤ mc) (hw : w + 6 ≤ ms) {v0 : Nat} {v1 : Int32} {c : mm_C} (hf : hO 0 ovI n (bX11_agreesWithSeen_0 N  v0 v1 c) Q) : mG Z qX11_agreesWithSeen X k w mc ms Q (0, [(0, .ref v0), (1, .int v1)], [], (n, c)) := by
  unfold bX11_agreesWithSeen_0 at hf
  refine mg_aload_n C rfl rfl ?_
  refine mh_gR C rfl rfl rfl (by decide) hf (fun x1 hf => ?_)
  refine mg_aload_n C rfl rfl ?_
  refine mh_gR C rfl rfl rfl (by decide) hf (fun x2 hf => ?_)
  refine mg_aload_n C rfl rfl ?_
  refine mh_gR C rfl rfl rfl (by decide) hf (fun x3 hf => ?_)
  refine mh_gR C rfl rfl rfl (by decide) hf (fun x4 hf => ?_)
  refine mg_iload_n C rfl rfl ?_
  refine mh_cVU (M' := qX0_runs) C rfl rfl aX0_runs iX0_runs sX0_runs hRm (by omega) (by decide) (by omega) (by omega) rfl rfl rfl (Nat.le_of_ble_eq_true rfl) rfl hf (fun hs => wX0_runs (by omega) (by omega) hs) (fun c5 hf => ?_)
  refine mg_iconst (v := 0) C rfl (by decide) ?_
  refine mg_istore_n (lv' := [(0, .ref v0), (1, .int v1), (2, .int (0 : Int32))]) C rfl (Nat.le_of_ble_eq_true rfl) rfl ?_
  refine mg_sub (lv' := [(0, .ref v0), (2, .int (0 : Int32))]) (by simp) ?_
  exact WX11_agreesWithSeen_21 C hRm hd hn hk hw N hf
def fX11_agreesWithSeen (N : Nat) (v0 : Nat) (v1 : Int32) (c : mm_C) : mR Int32 := bX11_agreesWithSeen_0 N v0 v1 c
set_option maxRecDepth 100000 in
theorem wX11_agreesWithSeen {Z : mm_Z} {d n N : Nat} (hd : 6 ≤ d) (hn : n + 1 < 1000000) {v0 : Nat} {v1 : Int32} {c : mm_C} (hs : (fX11_agreesWithSeen N v0 v1 c).isSome = true) : mC Z qX11_agreesWithSeen d 1 6 [.ref v0, .int v1] (n, c) (mP 0 ovI n (fX11_agreesWithSeen N v0 v1 c)) := by
  refine mC_of gX11_agreesWithSeen (by decide +kernel) (Nat.le_of_ble_eq_true rfl) fun X C hRm => ?_
  have hf := hO_mP 0 ovI n hs
  have hk : 0 + 1 ≤ 1 := Nat.le_of_ble_eq_true rfl
  have hw : 0 + 6 ≤ 6 := Nat.le_of_ble_eq_true rfl
  show mG _ _ _ _ _ _ _ _ (0, [(0, .ref v0), (1, .int v1)], [], (n, c))
  exact wX11_agreesWithSeen_0 C hRm hd hn hk hw hf
def bX11_which_38 (N : Nat)  (v0 : Nat) (v1 : Int32) (c : mm_C) : mR Int32 :=
  cV 11 v0 c (fX11_agreesWithSeen N v0 (-1 : Int32) c) fun r1 c2 => if r1 = 0 then (some (.inl v1, c2)) else (some (.inl (v1 ||| (16 : Int32)), c2))
set_option maxRecDepth 100000 in
theorem wX11_which_38 {Z : mm_Z} {X : mm_T} {k w mc ms d n N : Nat} {Q : mm_O → mm_H → Prop} (C : mm_Ok Z qX11_which X) (hRm : mt_R X = mm_rm d mc ms) (hd : 7 ≤ d) (hn : n + 1 < 1000000) (hk : k + 1 ≤ mc) (hw : w + 6 ≤ ms) {v0 : Nat} {v1 : Int32} {c : mm_C} (hf : hO 0 ovI n (bX11_which_38 N  v0 v1 c) Q) : mG Z qX11_which X k w mc ms Q (38, [(0, .ref v0), (1, .int v1)], [], (n, c)) := by
  unfold bX11_which_38 at hf
  refine mg_aload_n C rfl rfl ?_
  refine mg_iconst (v := (-1)) C rfl (by decide) ?_
  refine mh_cVI (M' := qX11_agreesWithSeen) C rfl rfl aX11_agreesWithSeen iX11_agreesWithSeen sX11_agreesWithSeen hRm (by omega) (by decide) (by omega) (by omega) rfl rfl rfl (Nat.le_of_ble_eq_true rfl) rfl hf (fun hs => wX11_agreesWithSeen (by omega) (by omega) hs) (fun r1 c2 hf => ?_)
  refine mh_if_eq C rfl hf (fun e_43 hf => ?_) (fun e_43 hf => ?_)
  · refine mg_iload_n C rfl rfl ?_
    exact mh_ireturn C rfl (by omega) (by omega) rfl hf
  · refine mg_iload_n C rfl rfl ?_
    refine mg_bipush (v := 16) C rfl (by decide) ?_
    refine mg_ior C rfl ?_
    refine mg_goto C rfl ?_
    exact mh_ireturn C rfl (by omega) (by omega) rfl hf
def bX11_which_32 (N : Nat)  (k4 : Nat → Int32 → Int32 → mm_C → mR Int32) (v0 : Nat) (v1 : Int32) (v2 : Int32) (c : mm_C) : mR Int32 :=
  k4 v0 v1 (v2 + 1) c
set_option maxRecDepth 100000 in
theorem wX11_which_32 {Z : mm_Z} {X : mm_T} {k w mc ms d n N : Nat} {Q : mm_O → mm_H → Prop} (C : mm_Ok Z qX11_which X) (hRm : mt_R X = mm_rm d mc ms) (hd : 7 ≤ d) (hn : n + 1 < 1000000) (hk : k + 1 ≤ mc) (hw : w + 6 ≤ ms) {k4 : Nat → Int32 → Int32 → mm_C → mR Int32} (hk4 : ∀ (v0 : Nat) (v1 : Int32) (v2 : Int32) (c : mm_C), hO 0 ovI n (k4 v0 v1 v2 c) Q → mG Z qX11_which X k w mc ms Q (4, [(0, .ref v0), (1, .int v1), (2, .int v2)], [], (n, c))) {v0 : Nat} {v1 : Int32} {v2 : Int32} {c : mm_C} (hf : hO 0 ovI n (bX11_which_32 N  k4 v0 v1 v2 c) Q) : mG Z qX11_which X k w mc ms Q (32, [(0, .ref v0), (1, .int v1), (2, .int v2)], [], (n, c)) := by
  unfold bX11_which_32 at hf
  refine mg_iinc (lv' := [(0, .ref v0), (1, .int v1), (2, .int (v2 + 1))]) C rfl (Nat.le_of_ble_eq_true rfl) rfl (show _ + Int32.ofInt 1 = _ + 1 by congr 1) rfl ?_
  refine mg_goto C rfl ?_
  exact hk4 _ _ _ _ hf
def bX11_which_4 (N : Nat)  (k4 : Nat → Int32 → Int32 → mm_C → mR Int32) (v0 : Nat) (v1 : Int32) (v2 : Int32) (c : mm_C) : mR Int32 :=
  Option.bind (gR c v0 11 3) fun x1 => Option.bind (gR c x1 3 8) fun x2 => Option.bind (gI c x2 4 0) fun x3 => if x3 ≤ v2 then (bX11_which_38 N  v0 v1 c) else (cV 11 v0 c (fX11_agreesWithSeen N v0 v2 c) fun r4 c5 => if r4 = 0 then (bX11_which_32 N  k4 v0 v1 v2 c5) else (bX11_which_32 N  k4 v0 (v1 ||| ((1 : Int32) <<< (v2 &&& 31))) v2 c5))
set_option maxRecDepth 100000 in
theorem wX11_which_4 {Z : mm_Z} {X : mm_T} {k w mc ms d n N : Nat} {Q : mm_O → mm_H → Prop} (C : mm_Ok Z qX11_which X) (hRm : mt_R X = mm_rm d mc ms) (hd : 7 ≤ d) (hn : n + 1 < 1000000) (hk : k + 1 ≤ mc) (hw : w + 6 ≤ ms) {k4 : Nat → Int32 → Int32 → mm_C → mR Int32} (hk4 : ∀ (v0 : Nat) (v1 : Int32) (v2 : Int32) (c : mm_C), hO 0 ovI n (k4 v0 v1 v2 c) Q → mG Z qX11_which X k w mc ms Q (4, [(0, .ref v0), (1, .int v1), (2, .int v2)], [], (n, c))) {v0 : Nat} {v1 : Int32} {v2 : Int32} {c : mm_C} (hf : hO 0 ovI n (bX11_which_4 N  k4 v0 v1 v2 c) Q) : mG Z qX11_which X k w mc ms Q (4, [(0, .ref v0), (1, .int v1), (2, .int v2)], [], (n, c)) := by
  unfold bX11_which_4 at hf
  refine mg_iload_n C rfl rfl ?_
  refine mg_aload_n C rfl rfl ?_
  refine mh_gR C rfl rfl rfl (by decide) hf (fun x1 hf => ?_)
  refine mh_gR C rfl rfl rfl (by decide) hf (fun x2 hf => ?_)
  refine mh_gI C rfl rfl rfl (by decide) hf (fun x3 hf => ?_)
  refine mh_icmp_ge C rfl hf (fun e_15 hf => ?_) (fun e_15 hf => ?_)
  · refine mg_sub (lv' := [(0, .ref v0), (1, .int v1)]) (by simp) ?_
    exact wX11_which_38 C hRm hd hn hk hw hf
  · refine mg_aload_n C rfl rfl ?_
    refine mg_iload_n C rfl rfl ?_
    refine mh_cVI (M' := qX11_agreesWithSeen) C rfl rfl aX11_agreesWithSeen iX11_agreesWithSeen sX11_agreesWithSeen hRm (by omega) (by decide) (by omega) (by omega) rfl rfl rfl (Nat.le_of_ble_eq_true rfl) rfl hf (fun hs => wX11_agreesWithSeen (by omega) (by omega) hs) (fun r4 c5 hf => ?_)
    refine mh_if_eq C rfl hf (fun e_23 hf => ?_) (fun e_23 hf => ?_)
    · exact wX11_which_32 C hRm hd hn hk hw hk4 hf
    · refine mg_iload_n C rfl rfl ?_
      refine mg_iconst (v := 1) C rfl (by decide) ?_
      refine mg_iload_n C rfl rfl ?_
      refine mg_ishl C rfl ?_
      refine mg_ior C rfl ?_
      refine mg_istore_n (lv' := [(0, .ref v0), (1, .int (v1 ||| ((1 : Int32) <<< (v2 &&& 31)))), (2, .int v2)]) C rfl (Nat.le_of_ble_eq_true rfl) rfl ?_
      exact wX11_which_32 C hRm hd hn hk hw hk4 hf
def lX11_which_4 (N : Nat)  : Nat → Nat → Int32 → Int32 → mm_C → mR Int32
  | 0, _, _, _, _ => none
  | m + 1, v0, v1, v2, c => bX11_which_4 N  (lX11_which_4 N  m) v0 v1 v2 c
theorem WX11_which_4 {Z : mm_Z} {X : mm_T} {k w mc ms d n N : Nat} {Q : mm_O → mm_H → Prop} (C : mm_Ok Z qX11_which X) (hRm : mt_R X = mm_rm d mc ms) (hd : 7 ≤ d) (hn : n + 1 < 1000000) (hk : k + 1 ≤ mc) (hw : w + 6 ≤ ms) : ∀ (m : Nat) {v0 : Nat} {v1 : Int32} {v2 : Int32} {c : mm_C} (hf : hO 0 ovI n (lX11_which_4 N  m v0 v1 v2 c) Q), mG Z qX11_which X k w mc ms Q (4, [(0, .ref v0), (1, .int v1), (2, .int v2)], [], (n, c)) := by
  intro m
  induction m with
  | zero => intro v0 v1 v2 c hf; exact absurd hf hO_none
  | succ m ih => intro v0 v1 v2 c hf; exact wX11_which_4 C hRm hd hn hk hw (fun v0 v1 v2 c hf => ih hf) hf
def bX11_which_0 (N : Nat)  (v0 : Nat) (c : mm_C) : mR Int32 :=
  lX11_which_4 N  N v0 (0 : Int32) (0 : Int32) c
set_option maxRecDepth 100000 in
theorem wX11_which_0 {Z : mm_Z} {X : mm_T} {k w mc ms d n N : Nat} {Q : mm_O → mm_H → Prop} (C : mm_Ok Z qX11_which X) (hRm : mt_R X = mm_rm d mc ms) (hd : 7 ≤ d) (hn : n + 1 < 1000000) (hk : k + 1 ≤ mc) (hw : w + 6 ≤ ms) {v0 : Nat} {c : mm_C} (hf : hO 0 ovI n (bX11_which_0 N  v0 c) Q) : mG Z qX11_which X k w mc ms Q (0, [(0, .ref v0)], [], (n, c)) := by
  unfold bX11_which_0 at hf
  refine mg_iconst (v := 0) C rfl (by decide) ?_
  refine mg_istore_n (lv' := [(0, .ref v0), (1, .int (0 : Int32))]) C rfl (Nat.le_of_ble_eq_true rfl) rfl ?_
  refine mg_iconst (v := 0) C rfl (by decide) ?_
  refine mg_istore_n (lv' := [(0, .ref v0), (1, .int (0 : Int32)), (2, .int (0 : Int32))]) C rfl (Nat.le_of_ble_eq_true rfl) rfl ?_
  exact WX11_which_4 C hRm hd hn hk hw N hf
def fX11_which (N : Nat) (v0 : Nat) (c : mm_C) : mR Int32 := bX11_which_0 N v0 c
set_option maxRecDepth 100000 in
theorem wX11_which {Z : mm_Z} {d n N : Nat} (hd : 7 ≤ d) (hn : n + 1 < 1000000) {v0 : Nat} {c : mm_C} (hs : (fX11_which N v0 c).isSome = true) : mC Z qX11_which d 1 6 [.ref v0] (n, c) (mP 0 ovI n (fX11_which N v0 c)) := by
  refine mC_of gX11_which (by decide +kernel) (Nat.le_of_ble_eq_true rfl) fun X C hRm => ?_
  have hf := hO_mP 0 ovI n hs
  have hk : 0 + 1 ≤ 1 := Nat.le_of_ble_eq_true rfl
  have hw : 0 + 6 ≤ 6 := Nat.le_of_ble_eq_true rfl
  show mG _ _ _ _ _ _ _ _ (0, [(0, .ref v0)], [], (n, c))
  exact wX11_which_0 C hRm hd hn hk hw hf
def bX11_forget_0 (N : Nat)  (v0 : Nat) (c : mm_C) : mR Unit :=
  Option.bind (gR c v0 11 6) fun x1 => Option.bind (pI c x1 5 6 (0 : Int32)) fun c2 => some (.inl (), c2)
set_option maxRecDepth 100000 in
theorem wX11_forget_0 {Z : mm_Z} {X : mm_T} {k w mc ms d n N : Nat} {Q : mm_O → mm_H → Prop} (C : mm_Ok Z qX11_forget X) (hRm : mt_R X = mm_rm d mc ms) (hd : 1 ≤ d) (hn : n + 1 < 1000000) (hk : k + 1 ≤ mc) (hw : w + 6 ≤ ms) {v0 : Nat} {c : mm_C} (hf : hO 0 ovU n (bX11_forget_0 N  v0 c) Q) : mG Z qX11_forget X k w mc ms Q (0, [(0, .ref v0)], [], (n, c)) := by
  unfold bX11_forget_0 at hf
  refine mg_aload_n C rfl rfl ?_
  refine mh_gR C rfl rfl rfl (by decide) hf (fun x1 hf => ?_)
  refine mg_iconst (v := 0) C rfl (by decide) ?_
  refine mh_pI C rfl rfl rfl (by decide) rfl rfl rfl hf (fun c2 hf => ?_)
  exact mh_return C rfl (by omega) (by omega) rfl hf
def fX11_forget (N : Nat) (v0 : Nat) (c : mm_C) : mR Unit := bX11_forget_0 N v0 c
set_option maxRecDepth 100000 in
theorem wX11_forget {Z : mm_Z} {d n N : Nat} (hd : 1 ≤ d) (hn : n + 1 < 1000000) {v0 : Nat} {c : mm_C} (hs : (fX11_forget N v0 c).isSome = true) : mC Z qX11_forget d 1 6 [.ref v0] (n, c) (mP 0 ovU n (fX11_forget N v0 c)) := by
  refine mC_of gX11_forget (by decide +kernel) (Nat.le_of_ble_eq_true rfl) fun X C hRm => ?_
  have hf := hO_mP 0 ovU n hs
  have hk : 0 + 1 ≤ 1 := Nat.le_of_ble_eq_true rfl
  have hw : 0 + 6 ≤ 6 := Nat.le_of_ble_eq_true rfl
  show mG _ _ _ _ _ _ _ _ (0, [(0, .ref v0)], [], (n, c))
  exact wX11_forget_0 C hRm hd hn hk hw hf
def bX11_drawOf_0 (N : Nat)  (v0 : Int32) (v1 : Int32) (c : mm_C) : mR Int32 :=
  if v1 ≤ 0 then (some (.inl (0 : Int32), c)) else (Option.bind (rmI ((v0.toUInt32 >>> ((16 : Int32).toUInt32 &&& Int32.toUInt32 31)).toInt32 &&& (32767 : Int32)) v1) fun x1 => some (.inl x1, c))
set_option maxRecDepth 100000 in
theorem wX11_drawOf_0 {Z : mm_Z} {X : mm_T} {k w mc ms d n N : Nat} {Q : mm_O → mm_H → Prop} (C : mm_Ok Z qX11_drawOf X) (hRm : mt_R X = mm_rm d mc ms) (hd : 1 ≤ d) (hn : n + 1 < 1000000) (hk : k + 1 ≤ mc) (hw : w + 6 ≤ ms) {v0 : Int32} {v1 : Int32} {c : mm_C} (hf : hO 0 ovI n (bX11_drawOf_0 N  v0 v1 c) Q) : mG Z qX11_drawOf X k w mc ms Q (0, [(0, .int v0), (1, .int v1)], [], (n, c)) := by
  unfold bX11_drawOf_0 at hf
  refine mg_iload_n C rfl rfl ?_
  refine mh_if_le C rfl hf (fun e_1 hf => ?_) (fun e_1 hf => ?_)
  · refine mg_iconst (v := 0) C rfl (by decide) ?_
    exact mh_ireturn C rfl (by omega) (by omega) rfl hf
  · refine mg_iload_n C rfl rfl ?_
    refine mg_bipush (v := 16) C rfl (by decide) ?_
    refine mg_iushr C rfl ?_
    refine mg_sipush (v := 32767) C rfl (by decide) ?_
    refine mg_iand C rfl ?_
    refine mg_iload_n C rfl rfl ?_
    refine mh_irem C rfl hf (fun x1 hf => ?_)
    refine mg_goto C rfl ?_
    exact mh_ireturn C rfl (by omega) (by omega) rfl hf
def fX11_drawOf (N : Nat) (v0 : Int32) (v1 : Int32) (c : mm_C) : mR Int32 := bX11_drawOf_0 N v0 v1 c
set_option maxRecDepth 100000 in
theorem wX11_drawOf {Z : mm_Z} {d n N : Nat} (hd : 1 ≤ d) (hn : n + 1 < 1000000) {v0 : Int32} {v1 : Int32} {c : mm_C} (hs : (fX11_drawOf N v0 v1 c).isSome = true) : mC Z qX11_drawOf d 1 6 [.int v0, .int v1] (n, c) (mP 0 ovI n (fX11_drawOf N v0 v1 c)) := by
  refine mC_of gX11_drawOf (by decide +kernel) (Nat.le_of_ble_eq_true rfl) fun X C hRm => ?_
  have hf := hO_mP 0 ovI n hs
  have hk : 0 + 1 ≤ 1 := Nat.le_of_ble_eq_true rfl
  have hw : 0 + 6 ≤ 6 := Nat.le_of_ble_eq_true rfl
  show mG _ _ _ _ _ _ _ _ (0, [(0, .int v0), (1, .int v1)], [], (n, c))
  exact wX11_drawOf_0 C hRm hd hn hk hw hf
def bX11_nextSeed_0 (N : Nat)  (v0 : Int32) (c : mm_C) : mR Int32 :=
  some (.inl ((v0 * (1103515245 : Int32)) + (12345 : Int32)), c)
set_option maxRecDepth 100000 in
theorem wX11_nextSeed_0 {Z : mm_Z} {X : mm_T} {k w mc ms d n N : Nat} {Q : mm_O → mm_H → Prop} (C : mm_Ok Z qX11_nextSeed X) (hRm : mt_R X = mm_rm d mc ms) (hd : 1 ≤ d) (hn : n + 1 < 1000000) (hk : k + 1 ≤ mc) (hw : w + 6 ≤ ms) {v0 : Int32} {c : mm_C} (hf : hO 0 ovI n (bX11_nextSeed_0 N  v0 c) Q) : mG Z qX11_nextSeed X k w mc ms Q (0, [(0, .int v0)], [], (n, c)) := by
  unfold bX11_nextSeed_0 at hf
  refine mg_iload_n C rfl rfl ?_
  refine mg_ldc_w C rfl rfl ?_
  refine mg_imul C rfl ?_
  refine mg_sipush (v := 12345) C rfl (by decide) ?_
  refine mg_iadd C rfl ?_
  exact mh_ireturn C rfl (by omega) (by omega) rfl hf
def fX11_nextSeed (N : Nat) (v0 : Int32) (c : mm_C) : mR Int32 := bX11_nextSeed_0 N v0 c
set_option maxRecDepth 100000 in
theorem wX11_nextSeed {Z : mm_Z} {d n N : Nat} (hd : 1 ≤ d) (hn : n + 1 < 1000000) {v0 : Int32} {c : mm_C} (hs : (fX11_nextSeed N v0 c).isSome = true) : mC Z qX11_nextSeed d 1 6 [.int v0] (n, c) (mP 0 ovI n (fX11_nextSeed N v0 c)) := by
  refine mC_of gX11_nextSeed (by decide +kernel) (Nat.le_of_ble_eq_true rfl) fun X C hRm => ?_
  have hf := hO_mP 0 ovI n hs
  have hk : 0 + 1 ≤ 1 := Nat.le_of_ble_eq_true rfl
  have hw : 0 + 6 ≤ 6 := Nat.le_of_ble_eq_true rfl
  show mG _ _ _ _ _ _ _ _ (0, [(0, .int v0)], [], (n, c))
  exact wX11_nextSeed_0 C hRm hd hn hk hw hf
def bX11_paintsBySeed_101 (N : Nat)  (v4 : Int32) (c : mm_C) : mR Int32 :=
  some (.inl v4, c)
set_option maxRecDepth 100000 in
theorem wX11_paintsBySeed_101 {Z : mm_Z} {X : mm_T} {k w mc ms d n N : Nat} {Q : mm_O → mm_H → Prop} (C : mm_Ok Z qX11_paintsBySeed X) (hRm : mt_R X = mm_rm d mc ms) (hd : 3 ≤ d) (hn : n + 1 < 1000000) (hk : k + 1 ≤ mc) (hw : w + 6 ≤ ms) {v4 : Int32} {c : mm_C} (hf : hO 0 ovI n (bX11_paintsBySeed_101 N  v4 c) Q) : mG Z qX11_paintsBySeed X k w mc ms Q (101, [(4, .int v4)], [], (n, c)) := by
  unfold bX11_paintsBySeed_101 at hf
  refine mg_iload C rfl rfl ?_
  exact mh_ireturn C rfl (by omega) (by omega) rfl hf
def bX11_paintsBySeed_91 (N : Nat)  (k31 : Nat → Int32 → Int32 → Int32 → Int32 → mm_C → mR Int32) (v1 : Nat) (v4 : Int32) (v5 : Int32) (v7 : Int32) (v8 : Int32) (c : mm_C) : mR Int32 :=
  k31 v1 v4 v5 v8 (v7 + 1) c
set_option maxRecDepth 100000 in
theorem wX11_paintsBySeed_91 {Z : mm_Z} {X : mm_T} {k w mc ms d n N : Nat} {Q : mm_O → mm_H → Prop} (C : mm_Ok Z qX11_paintsBySeed X) (hRm : mt_R X = mm_rm d mc ms) (hd : 3 ≤ d) (hn : n + 1 < 1000000) (hk : k + 1 ≤ mc) (hw : w + 6 ≤ ms) {k31 : Nat → Int32 → Int32 → Int32 → Int32 → mm_C → mR Int32} (hk31 : ∀ (v1 : Nat) (v4 : Int32) (v5 : Int32) (v6 : Int32) (v7 : Int32) (c : mm_C), hO 0 ovI n (k31 v1 v4 v5 v6 v7 c) Q → mG Z qX11_paintsBySeed X k w mc ms Q (31, [(1, .ref v1), (4, .int v4), (5, .int v5), (6, .int v6), (7, .int v7)], [], (n, c))) {v1 : Nat} {v4 : Int32} {v5 : Int32} {v7 : Int32} {v8 : Int32} {c : mm_C} (hf : hO 0 ovI n (bX11_paintsBySeed_91 N  k31 v1 v4 v5 v7 v8 c) Q) : mG Z qX11_paintsBySeed X k w mc ms Q (91, [(1, .ref v1), (4, .int v4), (5, .int v5), (7, .int v7), (8, .int v8)], [], (n, c)) := by
  unfold bX11_paintsBySeed_91 at hf
  refine mg_iload C rfl rfl ?_
  refine mg_istore (lv' := [(1, .ref v1), (4, .int v4), (5, .int v5), (6, .int v8), (7, .int v7), (8, .int v8)]) C rfl (Nat.le_of_ble_eq_true rfl) rfl ?_
  refine mg_iinc (lv' := [(1, .ref v1), (4, .int v4), (5, .int v5), (6, .int v8), (7, .int (v7 + 1)), (8, .int v8)]) C rfl (Nat.le_of_ble_eq_true rfl) rfl (show _ + Int32.ofInt 1 = _ + 1 by congr 1) rfl ?_
  refine mg_goto C rfl ?_
  refine mg_sub (lv' := [(1, .ref v1), (4, .int v4), (5, .int v5), (6, .int v8), (7, .int (v7 + 1))]) (by simp) ?_
  exact hk31 _ _ _ _ _ _ hf
def bX11_paintsBySeed_72 (N : Nat)  (k31 : Nat → Int32 → Int32 → Int32 → Int32 → mm_C → mR Int32) (v1 : Nat) (v4 : Int32) (v5 : Int32) (v6 : Int32) (v7 : Int32) (v8 : Int32) (s0 : Int32) (c : mm_C) : mR Int32 :=
  if s0 = 0 then (bX11_paintsBySeed_91 N  k31 v1 v4 v5 v7 v8 c) else (cV 8 v1 c (fX8_paint N v1 v6 (v8 - (1 : Int32)) (1 : Int32) c) fun r1 c2 => bX11_paintsBySeed_91 N  k31 v1 v4 v5 v7 v8 c2)
set_option maxRecDepth 100000 in
theorem wX11_paintsBySeed_72 {Z : mm_Z} {X : mm_T} {k w mc ms d n N : Nat} {Q : mm_O → mm_H → Prop} (C : mm_Ok Z qX11_paintsBySeed X) (hRm : mt_R X = mm_rm d mc ms) (hd : 3 ≤ d) (hn : n + 1 < 1000000) (hk : k + 1 ≤ mc) (hw : w + 6 ≤ ms) {k31 : Nat → Int32 → Int32 → Int32 → Int32 → mm_C → mR Int32} (hk31 : ∀ (v1 : Nat) (v4 : Int32) (v5 : Int32) (v6 : Int32) (v7 : Int32) (c : mm_C), hO 0 ovI n (k31 v1 v4 v5 v6 v7 c) Q → mG Z qX11_paintsBySeed X k w mc ms Q (31, [(1, .ref v1), (4, .int v4), (5, .int v5), (6, .int v6), (7, .int v7)], [], (n, c))) {v1 : Nat} {v4 : Int32} {v5 : Int32} {v6 : Int32} {v7 : Int32} {v8 : Int32} {s0 : Int32} {c : mm_C} (hf : hO 0 ovI n (bX11_paintsBySeed_72 N  k31 v1 v4 v5 v6 v7 v8 s0 c) Q) : mG Z qX11_paintsBySeed X k w mc ms Q (72, [(1, .ref v1), (4, .int v4), (5, .int v5), (6, .int v6), (7, .int v7), (8, .int v8)], [.int s0], (n, c)) := by
  unfold bX11_paintsBySeed_72 at hf
  refine mg_istore (lv' := [(1, .ref v1), (4, .int v4), (5, .int v5), (6, .int v6), (7, .int v7), (8, .int v8), (9, .int s0)]) C rfl (Nat.le_of_ble_eq_true rfl) rfl ?_
  refine mg_iload C rfl rfl ?_
  refine mh_if_eq C rfl hf (fun e_76 hf => ?_) (fun e_76 hf => ?_)
  · refine mg_sub (lv' := [(1, .ref v1), (4, .int v4), (5, .int v5), (7, .int v7), (8, .int v8)]) (by simp) ?_
    exact wX11_paintsBySeed_91 C hRm hd hn hk hw hk31 hf
  · refine mg_aload_n C rfl rfl ?_
    refine mg_iload C rfl rfl ?_
    refine mg_iload C rfl rfl ?_
    refine mg_iconst (v := 1) C rfl (by decide) ?_
    refine mg_isub C rfl ?_
    refine mg_iconst (v := 1) C rfl (by decide) ?_
    refine mh_cVI (M' := qX8_paint) C rfl rfl aX8_paint iX8_paint sX8_paint hRm (by omega) (by decide) (by omega) (by omega) rfl rfl rfl (Nat.le_of_ble_eq_true rfl) rfl hf (fun hs => wX8_paint (by omega) (by omega) hs) (fun r1 c2 hf => ?_)
    refine mg_pop C rfl rfl ?_
    refine mg_sub (lv' := [(1, .ref v1), (4, .int v4), (5, .int v5), (7, .int v7), (8, .int v8)]) (by simp) ?_
    exact wX11_paintsBySeed_91 C hRm hd hn hk hw hk31 hf
def bX11_paintsBySeed_31 (N : Nat)  (k31 : Nat → Int32 → Int32 → Int32 → Int32 → mm_C → mR Int32) (v1 : Nat) (v4 : Int32) (v5 : Int32) (v6 : Int32) (v7 : Int32) (c : mm_C) : mR Int32 :=
  if v5 ≤ v7 then (bX11_paintsBySeed_101 N  v4 c) else (cS (fX11_nextSeed N v4 c) fun r1 c2 => cS (fX11_drawOf N r1 (30 : Int32) c2) fun r3 c4 => if ¬ (v7 &&& (1 : Int32)) = (1 : Int32) then (bX11_paintsBySeed_72 N  k31 v1 r1 v5 v6 v7 ((v6 + r3) + (1 : Int32)) (0 : Int32) c4) else (bX11_paintsBySeed_72 N  k31 v1 r1 v5 v6 v7 ((v6 + r3) + (1 : Int32)) (1 : Int32) c4))
set_option maxRecDepth 100000 in
theorem wX11_paintsBySeed_31 {Z : mm_Z} {X : mm_T} {k w mc ms d n N : Nat} {Q : mm_O → mm_H → Prop} (C : mm_Ok Z qX11_paintsBySeed X) (hRm : mt_R X = mm_rm d mc ms) (hd : 3 ≤ d) (hn : n + 1 < 1000000) (hk : k + 1 ≤ mc) (hw : w + 6 ≤ ms) {k31 : Nat → Int32 → Int32 → Int32 → Int32 → mm_C → mR Int32} (hk31 : ∀ (v1 : Nat) (v4 : Int32) (v5 : Int32) (v6 : Int32) (v7 : Int32) (c : mm_C), hO 0 ovI n (k31 v1 v4 v5 v6 v7 c) Q → mG Z qX11_paintsBySeed X k w mc ms Q (31, [(1, .ref v1), (4, .int v4), (5, .int v5), (6, .int v6), (7, .int v7)], [], (n, c))) {v1 : Nat} {v4 : Int32} {v5 : Int32} {v6 : Int32} {v7 : Int32} {c : mm_C} (hf : hO 0 ovI n (bX11_paintsBySeed_31 N  k31 v1 v4 v5 v6 v7 c) Q) : mG Z qX11_paintsBySeed X k w mc ms Q (31, [(1, .ref v1), (4, .int v4), (5, .int v5), (6, .int v6), (7, .int v7)], [], (n, c)) := by
  unfold bX11_paintsBySeed_31 at hf
  refine mg_iload C rfl rfl ?_
  refine mg_iload C rfl rfl ?_
  refine mh_icmp_ge C rfl hf (fun e_35 hf => ?_) (fun e_35 hf => ?_)
  · refine mg_sub (lv' := [(4, .int v4)]) (by simp) ?_
    exact wX11_paintsBySeed_101 C hRm hd hn hk hw hf
  · refine mg_iload C rfl rfl ?_
    refine mh_cSI (M' := qX11_nextSeed) C rfl rfl aX11_nextSeed tX11_nextSeed hRm (by omega) (by decide) (by omega) (by omega) rfl rfl (Nat.le_of_ble_eq_true rfl) rfl hf (fun hs => wX11_nextSeed (by omega) (by omega) hs) (fun r1 c2 hf => ?_)
    refine mg_istore (lv' := [(1, .ref v1), (4, .int r1), (5, .int v5), (6, .int v6), (7, .int v7)]) C rfl (Nat.le_of_ble_eq_true rfl) rfl ?_
    refine mg_iload C rfl rfl ?_
    refine mg_iload C rfl rfl ?_
    refine mg_bipush (v := 30) C rfl (by decide) ?_
    refine mh_cSI (M' := qX11_drawOf) C rfl rfl aX11_drawOf tX11_drawOf hRm (by omega) (by decide) (by omega) (by omega) rfl rfl (Nat.le_of_ble_eq_true rfl) rfl hf (fun hs => wX11_drawOf (by omega) (by omega) hs) (fun r3 c4 hf => ?_)
    refine mg_iadd C rfl ?_
    refine mg_iconst (v := 1) C rfl (by decide) ?_
    refine mg_iadd C rfl ?_
    refine mg_istore (lv' := [(1, .ref v1), (4, .int r1), (5, .int v5), (6, .int v6), (7, .int v7), (8, .int ((v6 + r3) + (1 : Int32)))]) C rfl (Nat.le_of_ble_eq_true rfl) rfl ?_
    refine mg_iload C rfl rfl ?_
    refine mg_iconst (v := 1) C rfl (by decide) ?_
    refine mg_iand C rfl ?_
    refine mg_iconst (v := 1) C rfl (by decide) ?_
    refine mh_icmp_ne C rfl hf (fun e_64 hf => ?_) (fun e_64 hf => ?_)
    · refine mg_iconst (v := 0) C rfl (by decide) ?_
      exact wX11_paintsBySeed_72 C hRm hd hn hk hw hk31 hf
    · refine mg_iconst (v := 1) C rfl (by decide) ?_
      refine mg_goto C rfl ?_
      exact wX11_paintsBySeed_72 C hRm hd hn hk hw hk31 hf
def lX11_paintsBySeed_31 (N : Nat)  : Nat → Nat → Int32 → Int32 → Int32 → Int32 → mm_C → mR Int32
  | 0, _, _, _, _, _, _ => none
  | m + 1, v1, v4, v5, v6, v7, c => bX11_paintsBySeed_31 N  (lX11_paintsBySeed_31 N  m) v1 v4 v5 v6 v7 c
theorem WX11_paintsBySeed_31 {Z : mm_Z} {X : mm_T} {k w mc ms d n N : Nat} {Q : mm_O → mm_H → Prop} (C : mm_Ok Z qX11_paintsBySeed X) (hRm : mt_R X = mm_rm d mc ms) (hd : 3 ≤ d) (hn : n + 1 < 1000000) (hk : k + 1 ≤ mc) (hw : w + 6 ≤ ms) : ∀ (m : Nat) {v1 : Nat} {v4 : Int32} {v5 : Int32} {v6 : Int32} {v7 : Int32} {c : mm_C} (hf : hO 0 ovI n (lX11_paintsBySeed_31 N  m v1 v4 v5 v6 v7 c) Q), mG Z qX11_paintsBySeed X k w mc ms Q (31, [(1, .ref v1), (4, .int v4), (5, .int v5), (6, .int v6), (7, .int v7)], [], (n, c)) := by
  intro m
  induction m with
  | zero => intro v1 v4 v5 v6 v7 c hf; exact absurd hf hO_none
  | succ m ih => intro v1 v4 v5 v6 v7 c hf; exact wX11_paintsBySeed_31 C hRm hd hn hk hw (fun v1 v4 v5 v6 v7 c hf => ih hf) hf
def bX11_paintsBySeed_0 (N : Nat)  (v1 : Nat) (v2 : Int32) (v3 : Int32) (c : mm_C) : mR Int32 :=
  cS (fX11_nextSeed N v3 c) fun r1 c2 => cS (fX11_drawOf N r1 (16 : Int32) c2) fun r3 c4 => cV 8 v1 c4 (fX8_paint N v1 v2 (479 : Int32) (0 : Int32) c4) fun r5 c6 => lX11_paintsBySeed_31 N  N v1 r1 r3 v2 (0 : Int32) c6
set_option maxRecDepth 100000 in
theorem wX11_paintsBySeed_0 {Z : mm_Z} {X : mm_T} {k w mc ms d n N : Nat} {Q : mm_O → mm_H → Prop} (C : mm_Ok Z qX11_paintsBySeed X) (hRm : mt_R X = mm_rm d mc ms) (hd : 3 ≤ d) (hn : n + 1 < 1000000) (hk : k + 1 ≤ mc) (hw : w + 6 ≤ ms) {v1 : Nat} {v2 : Int32} {v3 : Int32} {c : mm_C} (hf : hO 0 ovI n (bX11_paintsBySeed_0 N  v1 v2 v3 c) Q) : mG Z qX11_paintsBySeed X k w mc ms Q (0, [(1, .ref v1), (2, .int v2), (3, .int v3)], [], (n, c)) := by
  unfold bX11_paintsBySeed_0 at hf
  refine mg_iload_n C rfl rfl ?_
  refine mh_cSI (M' := qX11_nextSeed) C rfl rfl aX11_nextSeed tX11_nextSeed hRm (by omega) (by decide) (by omega) (by omega) rfl rfl (Nat.le_of_ble_eq_true rfl) rfl hf (fun hs => wX11_nextSeed (by omega) (by omega) hs) (fun r1 c2 hf => ?_)
  refine mg_istore (lv' := [(1, .ref v1), (2, .int v2), (3, .int v3), (4, .int r1)]) C rfl (Nat.le_of_ble_eq_true rfl) rfl ?_
  refine mg_iload C rfl rfl ?_
  refine mg_bipush (v := 16) C rfl (by decide) ?_
  refine mh_cSI (M' := qX11_drawOf) C rfl rfl aX11_drawOf tX11_drawOf hRm (by omega) (by decide) (by omega) (by omega) rfl rfl (Nat.le_of_ble_eq_true rfl) rfl hf (fun hs => wX11_drawOf (by omega) (by omega) hs) (fun r3 c4 hf => ?_)
  refine mg_istore (lv' := [(1, .ref v1), (2, .int v2), (3, .int v3), (4, .int r1), (5, .int r3)]) C rfl (Nat.le_of_ble_eq_true rfl) rfl ?_
  refine mg_aload_n C rfl rfl ?_
  refine mg_iload_n C rfl rfl ?_
  refine mg_sipush (v := 479) C rfl (by decide) ?_
  refine mg_iconst (v := 0) C rfl (by decide) ?_
  refine mh_cVI (M' := qX8_paint) C rfl rfl aX8_paint iX8_paint sX8_paint hRm (by omega) (by decide) (by omega) (by omega) rfl rfl rfl (Nat.le_of_ble_eq_true rfl) rfl hf (fun hs => wX8_paint (by omega) (by omega) hs) (fun r5 c6 hf => ?_)
  refine mg_pop C rfl rfl ?_
  refine mg_iload_n C rfl rfl ?_
  refine mg_istore (lv' := [(1, .ref v1), (2, .int v2), (3, .int v3), (4, .int r1), (5, .int r3), (6, .int v2)]) C rfl (Nat.le_of_ble_eq_true rfl) rfl ?_
  refine mg_iconst (v := 0) C rfl (by decide) ?_
  refine mg_istore (lv' := [(1, .ref v1), (2, .int v2), (3, .int v3), (4, .int r1), (5, .int r3), (6, .int v2), (7, .int (0 : Int32))]) C rfl (Nat.le_of_ble_eq_true rfl) rfl ?_
  refine mg_sub (lv' := [(1, .ref v1), (4, .int r1), (5, .int r3), (6, .int v2), (7, .int (0 : Int32))]) (by simp) ?_
  exact WX11_paintsBySeed_31 C hRm hd hn hk hw N hf
def fX11_paintsBySeed (N : Nat) (v0 : Nat) (v1 : Nat) (v2 : Int32) (v3 : Int32) (c : mm_C) : mR Int32 := bX11_paintsBySeed_0 N v1 v2 v3 c
set_option maxRecDepth 100000 in
theorem wX11_paintsBySeed {Z : mm_Z} {d n N : Nat} (hd : 3 ≤ d) (hn : n + 1 < 1000000) {v0 : Nat} {v1 : Nat} {v2 : Int32} {v3 : Int32} {c : mm_C} (hs : (fX11_paintsBySeed N v0 v1 v2 v3 c).isSome = true) : mC Z qX11_paintsBySeed d 1 6 [.ref v0, .ref v1, .int v2, .int v3] (n, c) (mP 0 ovI n (fX11_paintsBySeed N v0 v1 v2 v3 c)) := by
  refine mC_of gX11_paintsBySeed (by decide +kernel) (Nat.le_of_ble_eq_true rfl) fun X C hRm => ?_
  have hf := hO_mP 0 ovI n hs
  have hk : 0 + 1 ≤ 1 := Nat.le_of_ble_eq_true rfl
  have hw : 0 + 6 ≤ 6 := Nat.le_of_ble_eq_true rfl
  show mG _ _ _ _ _ _ _ _ (0, [(0, .ref v0), (1, .ref v1), (2, .int v2), (3, .int v3)], [], (n, c))
  refine mg_sub (lv' := [(1, .ref v1), (2, .int v2), (3, .int v3)]) (by simp) ?_
  exact wX11_paintsBySeed_0 C hRm hd hn hk hw hf
def bX11_week_160 (N : Nat)  (v4 : Int32) (v5 : Int32) (v6 : Int32) (v7 : Int32) (c : mm_C) : mR Int32 :=
  if v4 = (0 : Int32) then (some (.inl v5, c)) else (if v4 = (1 : Int32) then (some (.inl v6, c)) else (some (.inl v7, c)))
set_option maxRecDepth 100000 in
theorem wX11_week_160 {Z : mm_Z} {X : mm_T} {k w mc ms d n N : Nat} {Q : mm_O → mm_H → Prop} (C : mm_Ok Z qX11_week X) (hRm : mt_R X = mm_rm d mc ms) (hd : 8 ≤ d) (hn : n + 1 < 1000000) (hk : k + 1 ≤ mc) (hw : w + 6 ≤ ms) {v4 : Int32} {v5 : Int32} {v6 : Int32} {v7 : Int32} {c : mm_C} (hf : hO 0 ovI n (bX11_week_160 N  v4 v5 v6 v7 c) Q) : mG Z qX11_week X k w mc ms Q (160, [(4, .int v4), (5, .int v5), (6, .int v6), (7, .int v7)], [], (n, c)) := by
  unfold bX11_week_160 at hf
  refine mg_iload C rfl rfl ?_
  refine mh_case hf (fun e_162 hf => ?_) (fun n_1000 hf => ?_)
  · refine mg_lookIn e_162 (tgt := 188) C rfl (by decide) rfl (by decide) ?_
    refine mg_iload C rfl rfl ?_
    exact mh_ireturn C rfl (by omega) (by omega) rfl hf
  refine mh_case hf (fun e_162 hf => ?_) (fun n_1001 hf => ?_)
  · refine mg_lookIn e_162 (tgt := 191) C rfl (by decide) rfl (by decide) ?_
    refine mg_iload C rfl rfl ?_
    exact mh_ireturn C rfl (by omega) (by omega) rfl hf
  refine mg_look (tgt := 194) (off := 32) C rfl (by decide) ((lv_osw (k := 0) (a := 0) n_1000 (by decide)).trans ((lv_osw (k := 1) (a := 1) n_1001 (by decide)).trans (rfl))) (by decide) ?_
  refine mg_iload C rfl rfl ?_
  exact mh_ireturn C rfl (by omega) (by omega) rfl hf
def bX11_week_70 (N : Nat)  (k70 : Nat → Int32 → Int32 → Int32 → Int32 → Int32 → Int32 → Int32 → Int32 → mm_C → mR Int32) (v0 : Nat) (v1 : Int32) (v3 : Int32) (v4 : Int32) (v5 : Int32) (v6 : Int32) (v7 : Int32) (v8 : Int32) (v9 : Int32) (c : mm_C) : mR Int32 :=
  if v3 ≤ v9 then (bX11_week_160 N  v4 v5 v6 v7 c) else (Option.bind (gR c v0 11 9) fun x1 => Option.bind (gR c x1 9 8) fun x2 => Option.bind (gR c v0 11 9) fun x3 => Option.bind (gI c x3 9 0) fun x4 => cV 11 v0 c (fX11_paintsBySeed N v0 x2 x4 v8 c) fun r5 c6 => Option.bind (gR c6 v0 11 11) fun x7 => Option.bind (gR c6 v0 11 3) fun x8 => Option.bind (gR c6 v0 11 9) fun x9 => cV 0 x7 c6 (fX0_runs N x7 x8 x9 v1 c6) fun (_ : Unit) c10 => Option.bind (gR c10 v0 11 11) fun x11 => Option.bind (gI c10 x11 0 0) fun x12 => cS (fJ6_bitCount_0f7a4 N x12 c10) fun r13 c14 => Option.bind (gR c14 v0 11 11) fun x15 => Option.bind (gI c14 x15 0 1) fun x16 => k70 v0 v1 v3 v4 (v5 + r13) (mnI v6 r13) (v7 + x16) r5 (v9 + 1) c14)
set_option maxRecDepth 100000 in
theorem wX11_week_70 {Z : mm_Z} {X : mm_T} {k w mc ms d n N : Nat} {Q : mm_O → mm_H → Prop} (C : mm_Ok Z qX11_week X) (hRm : mt_R X = mm_rm d mc ms) (hd : 8 ≤ d) (hn : n + 1 < 1000000) (hk : k + 1 ≤ mc) (hw : w + 6 ≤ ms) {k70 : Nat → Int32 → Int32 → Int32 → Int32 → Int32 → Int32 → Int32 → Int32 → mm_C → mR Int32} (hk70 : ∀ (v0 : Nat) (v1 : Int32) (v3 : Int32) (v4 : Int32) (v5 : Int32) (v6 : Int32) (v7 : Int32) (v8 : Int32) (v9 : Int32) (c : mm_C), hO 0 ovI n (k70 v0 v1 v3 v4 v5 v6 v7 v8 v9 c) Q → mG Z qX11_week X k w mc ms Q (70, [(0, .ref v0), (1, .int v1), (3, .int v3), (4, .int v4), (5, .int v5), (6, .int v6), (7, .int v7), (8, .int v8), (9, .int v9)], [], (n, c))) {v0 : Nat} {v1 : Int32} {v3 : Int32} {v4 : Int32} {v5 : Int32} {v6 : Int32} {v7 : Int32} {v8 : Int32} {v9 : Int32} {c : mm_C} (hf : hO 0 ovI n (bX11_week_70 N  k70 v0 v1 v3 v4 v5 v6 v7 v8 v9 c) Q) : mG Z qX11_week X k w mc ms Q (70, [(0, .ref v0), (1, .int v1), (3, .int v3), (4, .int v4), (5, .int v5), (6, .int v6), (7, .int v7), (8, .int v8), (9, .int v9)], [], (n, c)) := by
  unfold bX11_week_70 at hf
  refine mg_iload C rfl rfl ?_
  refine mg_iload_n C rfl rfl ?_
  refine mh_icmp_ge C rfl hf (fun e_73 hf => ?_) (fun e_73 hf => ?_)
  · refine mg_sub (lv' := [(4, .int v4), (5, .int v5), (6, .int v6), (7, .int v7)]) (by simp) ?_
    exact wX11_week_160 C hRm hd hn hk hw hf
  · refine mg_aload_n C rfl rfl ?_
    refine mg_aload_n C rfl rfl ?_
    refine mh_gR C rfl rfl rfl (by decide) hf (fun x1 hf => ?_)
    refine mh_gR C rfl rfl rfl (by decide) hf (fun x2 hf => ?_)
    refine mg_aload_n C rfl rfl ?_
    refine mh_gR C rfl rfl rfl (by decide) hf (fun x3 hf => ?_)
    refine mh_gI C rfl rfl rfl (by decide) hf (fun x4 hf => ?_)
    refine mg_iload C rfl rfl ?_
    refine mh_cVI (M' := qX11_paintsBySeed) C rfl rfl aX11_paintsBySeed iX11_paintsBySeed sX11_paintsBySeed hRm (by omega) (by decide) (by omega) (by omega) rfl rfl rfl (Nat.le_of_ble_eq_true rfl) rfl hf (fun hs => wX11_paintsBySeed (by omega) (by omega) hs) (fun r5 c6 hf => ?_)
    refine mg_istore (lv' := [(0, .ref v0), (1, .int v1), (3, .int v3), (4, .int v4), (5, .int v5), (6, .int v6), (7, .int v7), (8, .int r5), (9, .int v9)]) C rfl (Nat.le_of_ble_eq_true rfl) rfl ?_
    refine mg_aload_n C rfl rfl ?_
    refine mh_gR C rfl rfl rfl (by decide) hf (fun x7 hf => ?_)
    refine mg_aload_n C rfl rfl ?_
    refine mh_gR C rfl rfl rfl (by decide) hf (fun x8 hf => ?_)
    refine mg_aload_n C rfl rfl ?_
    refine mh_gR C rfl rfl rfl (by decide) hf (fun x9 hf => ?_)
    refine mg_iload_n C rfl rfl ?_
    refine mh_cVU (M' := qX0_runs) C rfl rfl aX0_runs iX0_runs sX0_runs hRm (by omega) (by decide) (by omega) (by omega) rfl rfl rfl (Nat.le_of_ble_eq_true rfl) rfl hf (fun hs => wX0_runs (by omega) (by omega) hs) (fun c10 hf => ?_)
    refine mg_aload_n C rfl rfl ?_
    refine mh_gR C rfl rfl rfl (by decide) hf (fun x11 hf => ?_)
    refine mh_gI C rfl rfl rfl (by decide) hf (fun x12 hf => ?_)
    refine mh_cSI (M' := qJ6_bitCount_0f7a4) C rfl rfl aJ6_bitCount_0f7a4 tJ6_bitCount_0f7a4 hRm (by omega) (by decide) (by omega) (by omega) rfl rfl (Nat.le_of_ble_eq_true rfl) rfl hf (fun hs => wJ6_bitCount_0f7a4 (by omega) (by omega) hs) (fun r13 c14 hf => ?_)
    refine mg_istore (lv' := [(0, .ref v0), (1, .int v1), (3, .int v3), (4, .int v4), (5, .int v5), (6, .int v6), (7, .int v7), (8, .int r5), (9, .int v9), (10, .int r13)]) C rfl (Nat.le_of_ble_eq_true rfl) rfl ?_
    refine mg_iload C rfl rfl ?_
    refine mg_iload C rfl rfl ?_
    refine mg_iadd C rfl ?_
    refine mg_istore (lv' := [(0, .ref v0), (1, .int v1), (3, .int v3), (4, .int v4), (5, .int (v5 + r13)), (6, .int v6), (7, .int v7), (8, .int r5), (9, .int v9), (10, .int r13)]) C rfl (Nat.le_of_ble_eq_true rfl) rfl ?_
    refine mg_iload C rfl rfl ?_
    refine mg_iload C rfl rfl ?_
    refine mh_mnI C rfl rfl hRm (by omega) (Nat.le_of_ble_eq_true rfl) ?_
    refine mg_istore (lv' := [(0, .ref v0), (1, .int v1), (3, .int v3), (4, .int v4), (5, .int (v5 + r13)), (6, .int (mnI v6 r13)), (7, .int v7), (8, .int r5), (9, .int v9), (10, .int r13)]) C rfl (Nat.le_of_ble_eq_true rfl) rfl ?_
    refine mg_iload C rfl rfl ?_
    refine mg_aload_n C rfl rfl ?_
    refine mh_gR C rfl rfl rfl (by decide) hf (fun x15 hf => ?_)
    refine mh_gI C rfl rfl rfl (by decide) hf (fun x16 hf => ?_)
    refine mg_iadd C rfl ?_
    refine mg_istore (lv' := [(0, .ref v0), (1, .int v1), (3, .int v3), (4, .int v4), (5, .int (v5 + r13)), (6, .int (mnI v6 r13)), (7, .int (v7 + x16)), (8, .int r5), (9, .int v9), (10, .int r13)]) C rfl (Nat.le_of_ble_eq_true rfl) rfl ?_
    refine mg_iinc (lv' := [(0, .ref v0), (1, .int v1), (3, .int v3), (4, .int v4), (5, .int (v5 + r13)), (6, .int (mnI v6 r13)), (7, .int (v7 + x16)), (8, .int r5), (9, .int (v9 + 1)), (10, .int r13)]) C rfl (Nat.le_of_ble_eq_true rfl) rfl (show _ + Int32.ofInt 1 = _ + 1 by congr 1) rfl ?_
    refine mg_goto C rfl ?_
    refine mg_sub (lv' := [(0, .ref v0), (1, .int v1), (3, .int v3), (4, .int v4), (5, .int (v5 + r13)), (6, .int (mnI v6 r13)), (7, .int (v7 + x16)), (8, .int r5), (9, .int (v9 + 1))]) (by simp) ?_
    exact hk70 _ _ _ _ _ _ _ _ _ _ hf
def lX11_week_70 (N : Nat)  : Nat → Nat → Int32 → Int32 → Int32 → Int32 → Int32 → Int32 → Int32 → Int32 → mm_C → mR Int32
  | 0, _, _, _, _, _, _, _, _, _, _ => none
  | m + 1, v0, v1, v3, v4, v5, v6, v7, v8, v9, c => bX11_week_70 N  (lX11_week_70 N  m) v0 v1 v3 v4 v5 v6 v7 v8 v9 c
theorem WX11_week_70 {Z : mm_Z} {X : mm_T} {k w mc ms d n N : Nat} {Q : mm_O → mm_H → Prop} (C : mm_Ok Z qX11_week X) (hRm : mt_R X = mm_rm d mc ms) (hd : 8 ≤ d) (hn : n + 1 < 1000000) (hk : k + 1 ≤ mc) (hw : w + 6 ≤ ms) : ∀ (m : Nat) {v0 : Nat} {v1 : Int32} {v3 : Int32} {v4 : Int32} {v5 : Int32} {v6 : Int32} {v7 : Int32} {v8 : Int32} {v9 : Int32} {c : mm_C} (hf : hO 0 ovI n (lX11_week_70 N  m v0 v1 v3 v4 v5 v6 v7 v8 v9 c) Q), mG Z qX11_week X k w mc ms Q (70, [(0, .ref v0), (1, .int v1), (3, .int v3), (4, .int v4), (5, .int v5), (6, .int v6), (7, .int v7), (8, .int v8), (9, .int v9)], [], (n, c)) := by
  intro m
  induction m with
  | zero => intro v0 v1 v3 v4 v5 v6 v7 v8 v9 c hf; exact absurd hf hO_none
  | succ m ih => intro v0 v1 v3 v4 v5 v6 v7 v8 v9 c hf; exact wX11_week_70 C hRm hd hn hk hw (fun v0 v1 v3 v4 v5 v6 v7 v8 v9 c hf => ih hf) hf
def bX11_week_45 (N : Nat)  (v0 : Nat) (v1 : Int32) (v2 : Int32) (v3 : Int32) (v4 : Int32) (v5 : Int32) (s0 : Int32) (c : mm_C) : mR Int32 :=
  Option.bind (gR c v0 11 9) fun x1 => Option.bind (gR c v0 11 6) fun x2 => Option.bind (gR c x2 5 0) fun x3 => cV 9 x1 c (fX9_copyFrom N x1 x3 c) fun (_ : Unit) c4 => lX11_week_70 N  N v0 v1 v3 v4 v5 s0 (0 : Int32) v2 (0 : Int32) c4
set_option maxRecDepth 100000 in
theorem wX11_week_45 {Z : mm_Z} {X : mm_T} {k w mc ms d n N : Nat} {Q : mm_O → mm_H → Prop} (C : mm_Ok Z qX11_week X) (hRm : mt_R X = mm_rm d mc ms) (hd : 8 ≤ d) (hn : n + 1 < 1000000) (hk : k + 1 ≤ mc) (hw : w + 6 ≤ ms) {v0 : Nat} {v1 : Int32} {v2 : Int32} {v3 : Int32} {v4 : Int32} {v5 : Int32} {s0 : Int32} {c : mm_C} (hf : hO 0 ovI n (bX11_week_45 N  v0 v1 v2 v3 v4 v5 s0 c) Q) : mG Z qX11_week X k w mc ms Q (45, [(0, .ref v0), (1, .int v1), (2, .int v2), (3, .int v3), (4, .int v4), (5, .int v5)], [.int s0], (n, c)) := by
  unfold bX11_week_45 at hf
  refine mg_istore (lv' := [(0, .ref v0), (1, .int v1), (2, .int v2), (3, .int v3), (4, .int v4), (5, .int v5), (6, .int s0)]) C rfl (Nat.le_of_ble_eq_true rfl) rfl ?_
  refine mg_iconst (v := 0) C rfl (by decide) ?_
  refine mg_istore (lv' := [(0, .ref v0), (1, .int v1), (2, .int v2), (3, .int v3), (4, .int v4), (5, .int v5), (6, .int s0), (7, .int (0 : Int32))]) C rfl (Nat.le_of_ble_eq_true rfl) rfl ?_
  refine mg_iload_n C rfl rfl ?_
  refine mg_istore (lv' := [(0, .ref v0), (1, .int v1), (2, .int v2), (3, .int v3), (4, .int v4), (5, .int v5), (6, .int s0), (7, .int (0 : Int32)), (8, .int v2)]) C rfl (Nat.le_of_ble_eq_true rfl) rfl ?_
  refine mg_aload_n C rfl rfl ?_
  refine mh_gR C rfl rfl rfl (by decide) hf (fun x1 hf => ?_)
  refine mg_aload_n C rfl rfl ?_
  refine mh_gR C rfl rfl rfl (by decide) hf (fun x2 hf => ?_)
  refine mh_gR C rfl rfl rfl (by decide) hf (fun x3 hf => ?_)
  refine mh_cVU (M' := qX9_copyFrom) C rfl rfl aX9_copyFrom iX9_copyFrom sX9_copyFrom hRm (by omega) (by decide) (by omega) (by omega) rfl rfl rfl (Nat.le_of_ble_eq_true rfl) rfl hf (fun hs => wX9_copyFrom (by omega) (by omega) hs) (fun c4 hf => ?_)
  refine mg_iconst (v := 0) C rfl (by decide) ?_
  refine mg_istore (lv' := [(0, .ref v0), (1, .int v1), (2, .int v2), (3, .int v3), (4, .int v4), (5, .int v5), (6, .int s0), (7, .int (0 : Int32)), (8, .int v2), (9, .int (0 : Int32))]) C rfl (Nat.le_of_ble_eq_true rfl) rfl ?_
  refine mg_sub (lv' := [(0, .ref v0), (1, .int v1), (3, .int v3), (4, .int v4), (5, .int v5), (6, .int s0), (7, .int (0 : Int32)), (8, .int v2), (9, .int (0 : Int32))]) (by simp) ?_
  exact WX11_week_70 C hRm hd hn hk hw N hf
def bX11_week_21 (N : Nat)   (c : mm_C) : mR Int32 :=
  some (.inr 0, c)
set_option maxRecDepth 100000 in
theorem wX11_week_21 {Z : mm_Z} {X : mm_T} {k w mc ms d n N : Nat} {Q : mm_O → mm_H → Prop} (C : mm_Ok Z qX11_week X) (hRm : mt_R X = mm_rm d mc ms) (hd : 8 ≤ d) (hn : n + 1 < 1000000) (hk : k + 1 ≤ mc) (hw : w + 6 ≤ ms)  {c : mm_C} (hf : hO 0 ovI n (bX11_week_21 N   c) Q) : mG Z qX11_week X k w mc ms Q (21, [], [], (n, c)) := by
  unfold bX11_week_21 at hf
  exact mh_throw0 C rfl rfl rfl (Or.inr rfl) rfl rfl (by decide) hRm (by omega) (by omega) (by omega) (Nat.le_of_ble_eq_true rfl) rfl (by omega) hf
def bX11_week_0 (N : Nat)  (v0 : Nat) (v1 : Int32) (v2 : Int32) (v3 : Int32) (v4 : Int32) (c : mm_C) : mR Int32 :=
  cV 11 v0 c (fX11_requireRule N v0 v1 c) fun (_ : Unit) c1 => cS (fX11_requireWhat N v4 (2 : Int32) c1) fun (_ : Unit) c2 => if v3 < 0 then (bX11_week_21 N  c2) else (if v3 ≤ (10 : Int32) then (if ¬ v3 = 0 then (bX11_week_45 N  v0 v1 v2 v3 v4 (0 : Int32) (8 : Int32) c2) else (bX11_week_45 N  v0 v1 v2 v3 v4 (0 : Int32) (0 : Int32) c2)) else (bX11_week_21 N  c2))
set_option maxRecDepth 100000 in
theorem wX11_week_0 {Z : mm_Z} {X : mm_T} {k w mc ms d n N : Nat} {Q : mm_O → mm_H → Prop} (C : mm_Ok Z qX11_week X) (hRm : mt_R X = mm_rm d mc ms) (hd : 8 ≤ d) (hn : n + 1 < 1000000) (hk : k + 1 ≤ mc) (hw : w + 6 ≤ ms) {v0 : Nat} {v1 : Int32} {v2 : Int32} {v3 : Int32} {v4 : Int32} {c : mm_C} (hf : hO 0 ovI n (bX11_week_0 N  v0 v1 v2 v3 v4 c) Q) : mG Z qX11_week X k w mc ms Q (0, [(0, .ref v0), (1, .int v1), (2, .int v2), (3, .int v3), (4, .int v4)], [], (n, c)) := by
  unfold bX11_week_0 at hf
  refine mg_aload_n C rfl rfl ?_
  refine mg_iload_n C rfl rfl ?_
  refine mh_cVU (M' := qX11_requireRule) C rfl rfl aX11_requireRule iX11_requireRule sX11_requireRule hRm (by omega) (by decide) (by omega) (by omega) rfl rfl rfl (Nat.le_of_ble_eq_true rfl) rfl hf (fun hs => wX11_requireRule (by omega) (by omega) hs) (fun c1 hf => ?_)
  refine mg_iload C rfl rfl ?_
  refine mg_iconst (v := 2) C rfl (by decide) ?_
  refine mh_cSU (M' := qX11_requireWhat) C rfl rfl aX11_requireWhat tX11_requireWhat hRm (by omega) (by decide) (by omega) (by omega) rfl rfl (Nat.le_of_ble_eq_true rfl) rfl hf (fun hs => wX11_requireWhat (by omega) (by omega) hs) (fun c2 hf => ?_)
  refine mg_iload_n C rfl rfl ?_
  refine mh_if_lt C rfl hf (fun e_12 hf => ?_) (fun e_12 hf => ?_)
  · refine mg_sub (lv' := []) (by simp) ?_
    exact wX11_week_21 C hRm hd hn hk hw hf
  · refine mg_iload_n C rfl rfl ?_
    refine mg_bipush (v := 10) C rfl (by decide) ?_
    refine mh_icmp_le C rfl hf (fun e_18 hf => ?_) (fun e_18 hf => ?_)
    · refine mg_iconst (v := 0) C rfl (by decide) ?_
      refine mg_istore (lv' := [(0, .ref v0), (1, .int v1), (2, .int v2), (3, .int v3), (4, .int v4), (5, .int (0 : Int32))]) C rfl (Nat.le_of_ble_eq_true rfl) rfl ?_
      refine mg_iload_n C rfl rfl ?_
      refine mh_if_ne C rfl hf (fun e_36 hf => ?_) (fun e_36 hf => ?_)
      · refine mg_bipush (v := 8) C rfl (by decide) ?_
        exact wX11_week_45 C hRm hd hn hk hw hf
      · refine mg_iconst (v := 0) C rfl (by decide) ?_
        refine mg_goto C rfl ?_
        exact wX11_week_45 C hRm hd hn hk hw hf
    · refine mg_sub (lv' := []) (by simp) ?_
      exact wX11_week_21 C hRm hd hn hk hw hf
def fX11_week (N : Nat) (v0 : Nat) (v1 : Int32) (v2 : Int32) (v3 : Int32) (v4 : Int32) (c : mm_C) : mR Int32 := bX11_week_0 N v0 v1 v2 v3 v4 c
set_option maxRecDepth 100000 in
theorem wX11_week {Z : mm_Z} {d n N : Nat} (hd : 8 ≤ d) (hn : n + 1 < 1000000) {v0 : Nat} {v1 : Int32} {v2 : Int32} {v3 : Int32} {v4 : Int32} {c : mm_C} (hs : (fX11_week N v0 v1 v2 v3 v4 c).isSome = true) : mC Z qX11_week d 1 6 [.ref v0, .int v1, .int v2, .int v3, .int v4] (n, c) (mP 0 ovI n (fX11_week N v0 v1 v2 v3 v4 c)) := by
  refine mC_of gX11_week (by decide +kernel) (Nat.le_of_ble_eq_true rfl) fun X C hRm => ?_
  have hf := hO_mP 0 ovI n hs
  have hk : 0 + 1 ≤ 1 := Nat.le_of_ble_eq_true rfl
  have hw : 0 + 6 ≤ 6 := Nat.le_of_ble_eq_true rfl
  show mG _ _ _ _ _ _ _ _ (0, [(0, .ref v0), (1, .int v1), (2, .int v2), (3, .int v3), (4, .int v4)], [], (n, c))
  exact wX11_week_0 C hRm hd hn hk hw hf
def bX11_image_0 (N : Nat)  (v0 : Nat) (c : mm_C) : mR Unit :=
  Option.bind (gR c v0 11 7) fun x1 => Option.bind (gR c v0 11 6) fun x2 => cV 5 x1 c (fX5_copyFrom N x1 x2 c) fun (_ : Unit) c3 => Option.bind (pZ c3 v0 11 8 (1 : Int32)) fun c4 => some (.inl (), c4)
set_option maxRecDepth 100000 in
theorem wX11_image_0 {Z : mm_Z} {X : mm_T} {k w mc ms d n N : Nat} {Q : mm_O → mm_H → Prop} (C : mm_Ok Z qX11_image X) (hRm : mt_R X = mm_rm d mc ms) (hd : 4 ≤ d) (hn : n + 1 < 1000000) (hk : k + 1 ≤ mc) (hw : w + 6 ≤ ms) {v0 : Nat} {c : mm_C} (hf : hO 0 ovU n (bX11_image_0 N  v0 c) Q) : mG Z qX11_image X k w mc ms Q (0, [(0, .ref v0)], [], (n, c)) := by
  unfold bX11_image_0 at hf
  refine mg_aload_n C rfl rfl ?_
  refine mh_gR C rfl rfl rfl (by decide) hf (fun x1 hf => ?_)
  refine mg_aload_n C rfl rfl ?_
  refine mh_gR C rfl rfl rfl (by decide) hf (fun x2 hf => ?_)
  refine mh_cVU (M' := qX5_copyFrom) C rfl rfl aX5_copyFrom iX5_copyFrom sX5_copyFrom hRm (by omega) (by decide) (by omega) (by omega) rfl rfl rfl (Nat.le_of_ble_eq_true rfl) rfl hf (fun hs => wX5_copyFrom (by omega) (by omega) hs) (fun c3 hf => ?_)
  refine mg_aload_n C rfl rfl ?_
  refine mg_iconst (v := 1) C rfl (by decide) ?_
  refine mh_pZ C rfl rfl rfl (by decide) rfl rfl hf (fun c4 hf => ?_)
  exact mh_return C rfl (by omega) (by omega) rfl hf
def fX11_image (N : Nat) (v0 : Nat) (c : mm_C) : mR Unit := bX11_image_0 N v0 c
set_option maxRecDepth 100000 in
theorem wX11_image {Z : mm_Z} {d n N : Nat} (hd : 4 ≤ d) (hn : n + 1 < 1000000) {v0 : Nat} {c : mm_C} (hs : (fX11_image N v0 c).isSome = true) : mC Z qX11_image d 1 6 [.ref v0] (n, c) (mP 0 ovU n (fX11_image N v0 c)) := by
  refine mC_of gX11_image (by decide +kernel) (Nat.le_of_ble_eq_true rfl) fun X C hRm => ?_
  have hf := hO_mP 0 ovU n hs
  have hk : 0 + 1 ≤ 1 := Nat.le_of_ble_eq_true rfl
  have hw : 0 + 6 ≤ 6 := Nat.le_of_ble_eq_true rfl
  show mG _ _ _ _ _ _ _ _ (0, [(0, .ref v0)], [], (n, c))
  exact wX11_image_0 C hRm hd hn hk hw hf
def bX11_restore_18 (N : Nat)  (v0 : Nat) (c : mm_C) : mR Int32 :=
  Option.bind (gI c v0 11 8) fun x1 => rZ x1 c
set_option maxRecDepth 100000 in
theorem wX11_restore_18 {Z : mm_Z} {X : mm_T} {k w mc ms d n N : Nat} {Q : mm_O → mm_H → Prop} (C : mm_Ok Z qX11_restore X) (hRm : mt_R X = mm_rm d mc ms) (hd : 4 ≤ d) (hn : n + 1 < 1000000) (hk : k + 1 ≤ mc) (hw : w + 6 ≤ ms) {v0 : Nat} {c : mm_C} (hf : hO 0 ovI n (bX11_restore_18 N  v0 c) Q) : mG Z qX11_restore X k w mc ms Q (18, [(0, .ref v0)], [], (n, c)) := by
  unfold bX11_restore_18 at hf
  refine mg_aload_n C rfl rfl ?_
  refine mh_gI C rfl rfl rfl (by decide) hf (fun x1 hf => ?_)
  exact mh_zreturn C rfl (by omega) (by omega) rfl hf
def bX11_restore_0 (N : Nat)  (v0 : Nat) (c : mm_C) : mR Int32 :=
  Option.bind (gI c v0 11 8) fun x1 => if x1 = 0 then (bX11_restore_18 N  v0 c) else (Option.bind (gR c v0 11 6) fun x2 => Option.bind (gR c v0 11 7) fun x3 => cV 5 x2 c (fX5_copyFrom N x2 x3 c) fun (_ : Unit) c4 => bX11_restore_18 N  v0 c4)
set_option maxRecDepth 100000 in
theorem wX11_restore_0 {Z : mm_Z} {X : mm_T} {k w mc ms d n N : Nat} {Q : mm_O → mm_H → Prop} (C : mm_Ok Z qX11_restore X) (hRm : mt_R X = mm_rm d mc ms) (hd : 4 ≤ d) (hn : n + 1 < 1000000) (hk : k + 1 ≤ mc) (hw : w + 6 ≤ ms) {v0 : Nat} {c : mm_C} (hf : hO 0 ovI n (bX11_restore_0 N  v0 c) Q) : mG Z qX11_restore X k w mc ms Q (0, [(0, .ref v0)], [], (n, c)) := by
  unfold bX11_restore_0 at hf
  refine mg_aload_n C rfl rfl ?_
  refine mh_gI C rfl rfl rfl (by decide) hf (fun x1 hf => ?_)
  refine mh_if_eq C rfl hf (fun e_4 hf => ?_) (fun e_4 hf => ?_)
  · exact wX11_restore_18 C hRm hd hn hk hw hf
  · refine mg_aload_n C rfl rfl ?_
    refine mh_gR C rfl rfl rfl (by decide) hf (fun x2 hf => ?_)
    refine mg_aload_n C rfl rfl ?_
    refine mh_gR C rfl rfl rfl (by decide) hf (fun x3 hf => ?_)
    refine mh_cVU (M' := qX5_copyFrom) C rfl rfl aX5_copyFrom iX5_copyFrom sX5_copyFrom hRm (by omega) (by decide) (by omega) (by omega) rfl rfl rfl (Nat.le_of_ble_eq_true rfl) rfl hf (fun hs => wX5_copyFrom (by omega) (by omega) hs) (fun c4 hf => ?_)
    exact wX11_restore_18 C hRm hd hn hk hw hf
def fX11_restore (N : Nat) (v0 : Nat) (c : mm_C) : mR Int32 := bX11_restore_0 N v0 c
set_option maxRecDepth 100000 in
theorem wX11_restore {Z : mm_Z} {d n N : Nat} (hd : 4 ≤ d) (hn : n + 1 < 1000000) {v0 : Nat} {c : mm_C} (hs : (fX11_restore N v0 c).isSome = true) : mC Z qX11_restore d 1 6 [.ref v0] (n, c) (mP 0 ovI n (fX11_restore N v0 c)) := by
  refine mC_of gX11_restore (by decide +kernel) (Nat.le_of_ble_eq_true rfl) fun X C hRm => ?_
  have hf := hO_mP 0 ovI n hs
  have hk : 0 + 1 ≤ 1 := Nat.le_of_ble_eq_true rfl
  have hw : 0 + 6 ≤ 6 := Nat.le_of_ble_eq_true rfl
  show mG _ _ _ _ _ _ _ _ (0, [(0, .ref v0)], [], (n, c))
  exact wX11_restore_0 C hRm hd hn hk hw hf
