/- needs: 15.acall 15.fun  -/
def bX8_copyFrom_0 (N : Nat)  (v0 : Nat) (v1 : Nat) (c : mm_C) : mR Unit :=
  Option.bind (gR c v1 8 0) fun x1 => Option.bind (gR c v0 8 0) fun x2 => Option.bind (cpA .int c x1 (0 : Int32) x2 (0 : Int32) (15 : Int32)) fun c3 => some (.inl (), c3)
set_option maxRecDepth 100000 in
theorem wX8_copyFrom_0 {Z : mm_Z} {X : mm_T} {k w mc ms d n N : Nat} {Q : mm_O → mm_H → Prop} (C : mm_Ok Z qX8_copyFrom X) (hRm : mt_R X = mm_rm d mc ms) (hd : 1 ≤ d) (hn : n + 1 < 1000000) (hk : k + 1 ≤ mc) (hw : w + 6 ≤ ms) {v0 : Nat} {v1 : Nat} {c : mm_C} (hf : hO 0 ovU n (bX8_copyFrom_0 N  v0 v1 c) Q) : mG Z qX8_copyFrom X k w mc ms Q (0, [(0, .ref v0), (1, .ref v1)], [], (n, c)) := by
  unfold bX8_copyFrom_0 at hf
  refine mg_aload_n C rfl rfl ?_
  refine mh_gR C rfl rfl rfl (by decide) hf (fun x1 hf => ?_)
  refine mg_iconst (v := 0) C rfl (by decide) ?_
  refine mg_aload_n C rfl rfl ?_
  refine mh_gR C rfl rfl rfl (by decide) hf (fun x2 hf => ?_)
  refine mg_iconst (v := 0) C rfl (by decide) ?_
  refine mg_bipush (v := 15) C rfl (by decide) ?_
  refine mh_cpA (ti := 0) C rfl rfl rfl rfl hRm (by omega) (Nat.le_of_ble_eq_true rfl) hf (fun c3 hf => ?_)
  exact mh_return C rfl (by omega) (by omega) rfl hf
def fX8_copyFrom (N : Nat) (v0 : Nat) (v1 : Nat) (c : mm_C) : mR Unit := bX8_copyFrom_0 N v0 v1 c
set_option maxRecDepth 100000 in
theorem wX8_copyFrom {Z : mm_Z} {d n N : Nat} (hd : 1 ≤ d) (hn : n + 1 < 1000000) {v0 : Nat} {v1 : Nat} {c : mm_C} (hs : (fX8_copyFrom N v0 v1 c).isSome = true) : mC Z qX8_copyFrom d 1 6 [.ref v0, .ref v1] (n, c) (mP 0 ovU n (fX8_copyFrom N v0 v1 c)) := by
  refine mC_of gX8_copyFrom (by decide +kernel) (Nat.le_of_ble_eq_true rfl) fun X C hRm => ?_
  have hf := hO_mP 0 ovU n hs
  have hk : 0 + 1 ≤ 1 := Nat.le_of_ble_eq_true rfl
  have hw : 0 + 6 ≤ 6 := Nat.le_of_ble_eq_true rfl
  show mG _ _ _ _ _ _ _ _ (0, [(0, .ref v0), (1, .ref v1)], [], (n, c))
  exact wX8_copyFrom_0 C hRm hd hn hk hw hf
def bX8_clears_2 (N : Nat)  (k2 : Nat → Int32 → mm_C → mR Unit) (v0 : Nat) (v1 : Int32) (c : mm_C) : mR Unit :=
  if (15 : Int32) ≤ v1 then (some (.inl (), c)) else (Option.bind (gR c v0 8 0) fun x1 => Option.bind (tI c x1 v1 (0 : Int32)) fun c2 => k2 v0 (v1 + 1) c2)
set_option maxRecDepth 100000 in
theorem wX8_clears_2 {Z : mm_Z} {X : mm_T} {k w mc ms d n N : Nat} {Q : mm_O → mm_H → Prop} (C : mm_Ok Z qX8_clears X) (hRm : mt_R X = mm_rm d mc ms) (hd : 1 ≤ d) (hn : n + 1 < 1000000) (hk : k + 1 ≤ mc) (hw : w + 6 ≤ ms) {k2 : Nat → Int32 → mm_C → mR Unit} (hk2 : ∀ (v0 : Nat) (v1 : Int32) (c : mm_C), hO 0 ovU n (k2 v0 v1 c) Q → mG Z qX8_clears X k w mc ms Q (2, [(0, .ref v0), (1, .int v1)], [], (n, c))) {v0 : Nat} {v1 : Int32} {c : mm_C} (hf : hO 0 ovU n (bX8_clears_2 N  k2 v0 v1 c) Q) : mG Z qX8_clears X k w mc ms Q (2, [(0, .ref v0), (1, .int v1)], [], (n, c)) := by
  unfold bX8_clears_2 at hf
  refine mg_iload_n C rfl rfl ?_
  refine mg_bipush (v := 15) C rfl (by decide) ?_
  refine mh_icmp_ge C rfl hf (fun e_5 hf => ?_) (fun e_5 hf => ?_)
  · exact mh_return C rfl (by omega) (by omega) rfl hf
  · refine mg_aload_n C rfl rfl ?_
    refine mh_gR C rfl rfl rfl (by decide) hf (fun x1 hf => ?_)
    refine mg_iload_n C rfl rfl ?_
    refine mg_iconst (v := 0) C rfl (by decide) ?_
    refine mh_tI C rfl hf (fun c2 hf => ?_)
    refine mg_iinc (lv' := [(0, .ref v0), (1, .int (v1 + 1))]) C rfl (Nat.le_of_ble_eq_true rfl) rfl (show _ + Int32.ofInt 1 = _ + 1 by congr 1) rfl ?_
    refine mg_goto C rfl ?_
    exact hk2 _ _ _ hf
def lX8_clears_2 (N : Nat)  : Nat → Nat → Int32 → mm_C → mR Unit
  | 0, _, _, _ => none
  | m + 1, v0, v1, c => bX8_clears_2 N  (lX8_clears_2 N  m) v0 v1 c
theorem WX8_clears_2 {Z : mm_Z} {X : mm_T} {k w mc ms d n N : Nat} {Q : mm_O → mm_H → Prop} (C : mm_Ok Z qX8_clears X) (hRm : mt_R X = mm_rm d mc ms) (hd : 1 ≤ d) (hn : n + 1 < 1000000) (hk : k + 1 ≤ mc) (hw : w + 6 ≤ ms) : ∀ (m : Nat) {v0 : Nat} {v1 : Int32} {c : mm_C} (hf : hO 0 ovU n (lX8_clears_2 N  m v0 v1 c) Q), mG Z qX8_clears X k w mc ms Q (2, [(0, .ref v0), (1, .int v1)], [], (n, c)) := by
  intro m
  induction m with
  | zero => intro v0 v1 c hf; exact absurd hf hO_none
  | succ m ih => intro v0 v1 c hf; exact wX8_clears_2 C hRm hd hn hk hw (fun v0 v1 c hf => ih hf) hf
def bX8_clears_0 (N : Nat)  (v0 : Nat) (c : mm_C) : mR Unit :=
  lX8_clears_2 N  N v0 (0 : Int32) c
set_option maxRecDepth 100000 in
theorem wX8_clears_0 {Z : mm_Z} {X : mm_T} {k w mc ms d n N : Nat} {Q : mm_O → mm_H → Prop} (C : mm_Ok Z qX8_clears X) (hRm : mt_R X = mm_rm d mc ms) (hd : 1 ≤ d) (hn : n + 1 < 1000000) (hk : k + 1 ≤ mc) (hw : w + 6 ≤ ms) {v0 : Nat} {c : mm_C} (hf : hO 0 ovU n (bX8_clears_0 N  v0 c) Q) : mG Z qX8_clears X k w mc ms Q (0, [(0, .ref v0)], [], (n, c)) := by
  unfold bX8_clears_0 at hf
  refine mg_iconst (v := 0) C rfl (by decide) ?_
  refine mg_istore_n (lv' := [(0, .ref v0), (1, .int (0 : Int32))]) C rfl (Nat.le_of_ble_eq_true rfl) rfl ?_
  exact WX8_clears_2 C hRm hd hn hk hw N hf
def fX8_clears (N : Nat) (v0 : Nat) (c : mm_C) : mR Unit := bX8_clears_0 N v0 c
set_option maxRecDepth 100000 in
theorem wX8_clears {Z : mm_Z} {d n N : Nat} (hd : 1 ≤ d) (hn : n + 1 < 1000000) {v0 : Nat} {c : mm_C} (hs : (fX8_clears N v0 c).isSome = true) : mC Z qX8_clears d 1 6 [.ref v0] (n, c) (mP 0 ovU n (fX8_clears N v0 c)) := by
  refine mC_of gX8_clears (by decide +kernel) (Nat.le_of_ble_eq_true rfl) fun X C hRm => ?_
  have hf := hO_mP 0 ovU n hs
  have hk : 0 + 1 ≤ 1 := Nat.le_of_ble_eq_true rfl
  have hw : 0 + 6 ≤ 6 := Nat.le_of_ble_eq_true rfl
  show mG _ _ _ _ _ _ _ _ (0, [(0, .ref v0)], [], (n, c))
  exact wX8_clears_0 C hRm hd hn hk hw hf
def bX8_isSun_0 (N : Nat)  (v0 : Nat) (v1 : Int32) (c : mm_C) : mR Int32 :=
  if v1 < 0 then (rZ (0 : Int32) c) else (if v1 < (480 : Int32) then (Option.bind (gR c v0 8 0) fun x1 => Option.bind (aI c x1 (v1 >>> ((5 : Int32) &&& 31))) fun x2 => if ¬ ((x2.toUInt32 >>> ((v1 &&& (31 : Int32)).toUInt32 &&& Int32.toUInt32 31)).toInt32 &&& (1 : Int32)) = (1 : Int32) then (rZ (0 : Int32) c) else (rZ (1 : Int32) c)) else (rZ (0 : Int32) c))
set_option maxRecDepth 100000 in
theorem wX8_isSun_0 {Z : mm_Z} {X : mm_T} {k w mc ms d n N : Nat} {Q : mm_O → mm_H → Prop} (C : mm_Ok Z qX8_isSun X) (hRm : mt_R X = mm_rm d mc ms) (hd : 1 ≤ d) (hn : n + 1 < 1000000) (hk : k + 1 ≤ mc) (hw : w + 6 ≤ ms) {v0 : Nat} {v1 : Int32} {c : mm_C} (hf : hO 0 ovI n (bX8_isSun_0 N  v0 v1 c) Q) : mG Z qX8_isSun X k w mc ms Q (0, [(0, .ref v0), (1, .int v1)], [], (n, c)) := by
  unfold bX8_isSun_0 at hf
  refine mg_iload_n C rfl rfl ?_
  refine mh_if_lt C rfl hf (fun e_1 hf => ?_) (fun e_1 hf => ?_)
  · refine mg_iconst (v := 0) C rfl (by decide) ?_
    exact mh_zreturn C rfl (by omega) (by omega) rfl hf
  · refine mg_iload_n C rfl rfl ?_
    refine mg_sipush (v := 480) C rfl (by decide) ?_
    refine mh_icmp_lt C rfl hf (fun e_8 hf => ?_) (fun e_8 hf => ?_)
    · refine mg_aload_n C rfl rfl ?_
      refine mh_gR C rfl rfl rfl (by decide) hf (fun x1 hf => ?_)
      refine mg_iload_n C rfl rfl ?_
      refine mg_iconst (v := 5) C rfl (by decide) ?_
      refine mg_ishr C rfl ?_
      refine mh_aI C rfl hf (fun x2 hf => ?_)
      refine mg_iload_n C rfl rfl ?_
      refine mg_bipush (v := 31) C rfl (by decide) ?_
      refine mg_iand C rfl ?_
      refine mg_iushr C rfl ?_
      refine mg_iconst (v := 1) C rfl (by decide) ?_
      refine mg_iand C rfl ?_
      refine mg_iconst (v := 1) C rfl (by decide) ?_
      refine mh_icmp_ne C rfl hf (fun e_29 hf => ?_) (fun e_29 hf => ?_)
      · refine mg_iconst (v := 0) C rfl (by decide) ?_
        exact mh_zreturn C rfl (by omega) (by omega) rfl hf
      · refine mg_iconst (v := 1) C rfl (by decide) ?_
        refine mg_goto C rfl ?_
        exact mh_zreturn C rfl (by omega) (by omega) rfl hf
    · refine mg_iconst (v := 0) C rfl (by decide) ?_
      exact mh_zreturn C rfl (by omega) (by omega) rfl hf
def fX8_isSun (N : Nat) (v0 : Nat) (v1 : Int32) (c : mm_C) : mR Int32 := bX8_isSun_0 N v0 v1 c
set_option maxRecDepth 100000 in
theorem wX8_isSun {Z : mm_Z} {d n N : Nat} (hd : 1 ≤ d) (hn : n + 1 < 1000000) {v0 : Nat} {v1 : Int32} {c : mm_C} (hs : (fX8_isSun N v0 v1 c).isSome = true) : mC Z qX8_isSun d 1 6 [.ref v0, .int v1] (n, c) (mP 0 ovI n (fX8_isSun N v0 v1 c)) := by
  refine mC_of gX8_isSun (by decide +kernel) (Nat.le_of_ble_eq_true rfl) fun X C hRm => ?_
  have hf := hO_mP 0 ovI n hs
  have hk : 0 + 1 ≤ 1 := Nat.le_of_ble_eq_true rfl
  have hw : 0 + 6 ≤ 6 := Nat.le_of_ble_eq_true rfl
  show mG _ _ _ _ _ _ _ _ (0, [(0, .ref v0), (1, .int v1)], [], (n, c))
  exact wX8_isSun_0 C hRm hd hn hk hw hf
def bX8_paint_64 (N : Nat)  (v5 : Int32) (c : mm_C) : mR Int32 :=
  some (.inl v5, c)
set_option maxRecDepth 100000 in
theorem wX8_paint_64 {Z : mm_Z} {X : mm_T} {k w mc ms d n N : Nat} {Q : mm_O → mm_H → Prop} (C : mm_Ok Z qX8_paint X) (hRm : mt_R X = mm_rm d mc ms) (hd : 2 ≤ d) (hn : n + 1 < 1000000) (hk : k + 1 ≤ mc) (hw : w + 6 ≤ ms) {v5 : Int32} {c : mm_C} (hf : hO 0 ovI n (bX8_paint_64 N  v5 c) Q) : mG Z qX8_paint X k w mc ms Q (64, [(5, .int v5)], [], (n, c)) := by
  unfold bX8_paint_64 at hf
  refine mg_iload C rfl rfl ?_
  exact mh_ireturn C rfl (by omega) (by omega) rfl hf
def bX8_paint_58 (N : Nat)  (k19 : Nat → Int32 → Int32 → Int32 → Int32 → mm_C → mR Int32) (v0 : Nat) (v3 : Int32) (v4 : Int32) (v5 : Int32) (v6 : Int32) (c : mm_C) : mR Int32 :=
  k19 v0 v3 v4 v5 (v6 + 1) c
set_option maxRecDepth 100000 in
theorem wX8_paint_58 {Z : mm_Z} {X : mm_T} {k w mc ms d n N : Nat} {Q : mm_O → mm_H → Prop} (C : mm_Ok Z qX8_paint X) (hRm : mt_R X = mm_rm d mc ms) (hd : 2 ≤ d) (hn : n + 1 < 1000000) (hk : k + 1 ≤ mc) (hw : w + 6 ≤ ms) {k19 : Nat → Int32 → Int32 → Int32 → Int32 → mm_C → mR Int32} (hk19 : ∀ (v0 : Nat) (v3 : Int32) (v4 : Int32) (v5 : Int32) (v6 : Int32) (c : mm_C), hO 0 ovI n (k19 v0 v3 v4 v5 v6 c) Q → mG Z qX8_paint X k w mc ms Q (19, [(0, .ref v0), (3, .int v3), (4, .int v4), (5, .int v5), (6, .int v6)], [], (n, c))) {v0 : Nat} {v3 : Int32} {v4 : Int32} {v5 : Int32} {v6 : Int32} {c : mm_C} (hf : hO 0 ovI n (bX8_paint_58 N  k19 v0 v3 v4 v5 v6 c) Q) : mG Z qX8_paint X k w mc ms Q (58, [(0, .ref v0), (3, .int v3), (4, .int v4), (5, .int v5), (6, .int v6)], [], (n, c)) := by
  unfold bX8_paint_58 at hf
  refine mg_iinc (lv' := [(0, .ref v0), (3, .int v3), (4, .int v4), (5, .int v5), (6, .int (v6 + 1))]) C rfl (Nat.le_of_ble_eq_true rfl) rfl (show _ + Int32.ofInt 1 = _ + 1 by congr 1) rfl ?_
  refine mg_goto C rfl ?_
  exact hk19 _ _ _ _ _ _ hf
def bX8_paint_19 (N : Nat)  (k19 : Nat → Int32 → Int32 → Int32 → Int32 → mm_C → mR Int32) (v0 : Nat) (v3 : Int32) (v4 : Int32) (v5 : Int32) (v6 : Int32) (c : mm_C) : mR Int32 :=
  if v4 < v6 then (bX8_paint_64 N  v5 c) else (cV 8 v0 c (fX8_isSun N v0 v6 c) fun r1 c2 => if r1 = v3 then (bX8_paint_58 N  k19 v0 v3 v4 v5 v6 c2) else (Option.bind (gR c2 v0 8 0) fun x3 => Option.bind (aI c2 x3 (v6 >>> ((5 : Int32) &&& 31))) fun x4 => Option.bind (tI c2 x3 (v6 >>> ((5 : Int32) &&& 31)) (x4 ^^^ ((1 : Int32) <<< ((v6 &&& (31 : Int32)) &&& 31)))) fun c5 => bX8_paint_58 N  k19 v0 v3 v4 (v5 + 1) v6 c5))
set_option maxRecDepth 100000 in
theorem wX8_paint_19 {Z : mm_Z} {X : mm_T} {k w mc ms d n N : Nat} {Q : mm_O → mm_H → Prop} (C : mm_Ok Z qX8_paint X) (hRm : mt_R X = mm_rm d mc ms) (hd : 2 ≤ d) (hn : n + 1 < 1000000) (hk : k + 1 ≤ mc) (hw : w + 6 ≤ ms) {k19 : Nat → Int32 → Int32 → Int32 → Int32 → mm_C → mR Int32} (hk19 : ∀ (v0 : Nat) (v3 : Int32) (v4 : Int32) (v5 : Int32) (v6 : Int32) (c : mm_C), hO 0 ovI n (k19 v0 v3 v4 v5 v6 c) Q → mG Z qX8_paint X k w mc ms Q (19, [(0, .ref v0), (3, .int v3), (4, .int v4), (5, .int v5), (6, .int v6)], [], (n, c))) {v0 : Nat} {v3 : Int32} {v4 : Int32} {v5 : Int32} {v6 : Int32} {c : mm_C} (hf : hO 0 ovI n (bX8_paint_19 N  k19 v0 v3 v4 v5 v6 c) Q) : mG Z qX8_paint X k w mc ms Q (19, [(0, .ref v0), (3, .int v3), (4, .int v4), (5, .int v5), (6, .int v6)], [], (n, c)) := by
  unfold bX8_paint_19 at hf
  refine mg_iload C rfl rfl ?_
  refine mg_iload C rfl rfl ?_
  refine mh_icmp_gt C rfl hf (fun e_23 hf => ?_) (fun e_23 hf => ?_)
  · refine mg_sub (lv' := [(5, .int v5)]) (by simp) ?_
    exact wX8_paint_64 C hRm hd hn hk hw hf
  · refine mg_aload_n C rfl rfl ?_
    refine mg_iload C rfl rfl ?_
    refine mh_cVI (M' := qX8_isSun) C rfl rfl aX8_isSun iX8_isSun sX8_isSun hRm (by omega) (by decide) (by omega) (by omega) rfl rfl rfl (Nat.le_of_ble_eq_true rfl) rfl hf (fun hs => wX8_isSun (by omega) (by omega) hs) (fun r1 c2 hf => ?_)
    refine mg_iload_n C rfl rfl ?_
    refine mh_icmp_eq C rfl hf (fun e_33 hf => ?_) (fun e_33 hf => ?_)
    · exact wX8_paint_58 C hRm hd hn hk hw hk19 hf
    · refine mg_aload_n C rfl rfl ?_
      refine mh_gR C rfl rfl rfl (by decide) hf (fun x3 hf => ?_)
      refine mg_iload C rfl rfl ?_
      refine mg_iconst (v := 5) C rfl (by decide) ?_
      refine mg_ishr C rfl ?_
      refine mg_dup2 C rfl rfl rfl ?_
      refine mh_aI C rfl hf (fun x4 hf => ?_)
      refine mg_iconst (v := 1) C rfl (by decide) ?_
      refine mg_iload C rfl rfl ?_
      refine mg_bipush (v := 31) C rfl (by decide) ?_
      refine mg_iand C rfl ?_
      refine mg_ishl C rfl ?_
      refine mg_ixor C rfl ?_
      refine mh_tI C rfl hf (fun c5 hf => ?_)
      refine mg_iinc (lv' := [(0, .ref v0), (3, .int v3), (4, .int v4), (5, .int (v5 + 1)), (6, .int v6)]) C rfl (Nat.le_of_ble_eq_true rfl) rfl (show _ + Int32.ofInt 1 = _ + 1 by congr 1) rfl ?_
      exact wX8_paint_58 C hRm hd hn hk hw hk19 hf
def lX8_paint_19 (N : Nat)  : Nat → Nat → Int32 → Int32 → Int32 → Int32 → mm_C → mR Int32
  | 0, _, _, _, _, _, _ => none
  | m + 1, v0, v3, v4, v5, v6, c => bX8_paint_19 N  (lX8_paint_19 N  m) v0 v3 v4 v5 v6 c
theorem WX8_paint_19 {Z : mm_Z} {X : mm_T} {k w mc ms d n N : Nat} {Q : mm_O → mm_H → Prop} (C : mm_Ok Z qX8_paint X) (hRm : mt_R X = mm_rm d mc ms) (hd : 2 ≤ d) (hn : n + 1 < 1000000) (hk : k + 1 ≤ mc) (hw : w + 6 ≤ ms) : ∀ (m : Nat) {v0 : Nat} {v3 : Int32} {v4 : Int32} {v5 : Int32} {v6 : Int32} {c : mm_C} (hf : hO 0 ovI n (lX8_paint_19 N  m v0 v3 v4 v5 v6 c) Q), mG Z qX8_paint X k w mc ms Q (19, [(0, .ref v0), (3, .int v3), (4, .int v4), (5, .int v5), (6, .int v6)], [], (n, c)) := by
  intro m
  induction m with
  | zero => intro v0 v3 v4 v5 v6 c hf; exact absurd hf hO_none
  | succ m ih => intro v0 v3 v4 v5 v6 c hf; exact wX8_paint_19 C hRm hd hn hk hw (fun v0 v3 v4 v5 v6 c hf => ih hf) hf
def bX8_paint_0 (N : Nat)  (v0 : Nat) (v1 : Int32) (v2 : Int32) (v3 : Int32) (c : mm_C) : mR Int32 :=
  lX8_paint_19 N  N v0 v3 (mnI v2 (479 : Int32)) (0 : Int32) (mxI v1 (0 : Int32)) c
set_option maxRecDepth 100000 in
theorem wX8_paint_0 {Z : mm_Z} {X : mm_T} {k w mc ms d n N : Nat} {Q : mm_O → mm_H → Prop} (C : mm_Ok Z qX8_paint X) (hRm : mt_R X = mm_rm d mc ms) (hd : 2 ≤ d) (hn : n + 1 < 1000000) (hk : k + 1 ≤ mc) (hw : w + 6 ≤ ms) {v0 : Nat} {v1 : Int32} {v2 : Int32} {v3 : Int32} {c : mm_C} (hf : hO 0 ovI n (bX8_paint_0 N  v0 v1 v2 v3 c) Q) : mG Z qX8_paint X k w mc ms Q (0, [(0, .ref v0), (1, .int v1), (2, .int v2), (3, .int v3)], [], (n, c)) := by
  unfold bX8_paint_0 at hf
  refine mg_iload_n C rfl rfl ?_
  refine mg_sipush (v := 479) C rfl (by decide) ?_
  refine mh_mnI C rfl rfl hRm (by omega) (Nat.le_of_ble_eq_true rfl) ?_
  refine mg_istore (lv' := [(0, .ref v0), (1, .int v1), (2, .int v2), (3, .int v3), (4, .int (mnI v2 (479 : Int32)))]) C rfl (Nat.le_of_ble_eq_true rfl) rfl ?_
  refine mg_iconst (v := 0) C rfl (by decide) ?_
  refine mg_istore (lv' := [(0, .ref v0), (1, .int v1), (2, .int v2), (3, .int v3), (4, .int (mnI v2 (479 : Int32))), (5, .int (0 : Int32))]) C rfl (Nat.le_of_ble_eq_true rfl) rfl ?_
  refine mg_iload_n C rfl rfl ?_
  refine mg_iconst (v := 0) C rfl (by decide) ?_
  refine mh_mxI C rfl rfl hRm (by omega) (Nat.le_of_ble_eq_true rfl) ?_
  refine mg_istore (lv' := [(0, .ref v0), (1, .int v1), (2, .int v2), (3, .int v3), (4, .int (mnI v2 (479 : Int32))), (5, .int (0 : Int32)), (6, .int (mxI v1 (0 : Int32)))]) C rfl (Nat.le_of_ble_eq_true rfl) rfl ?_
  refine mg_sub (lv' := [(0, .ref v0), (3, .int v3), (4, .int (mnI v2 (479 : Int32))), (5, .int (0 : Int32)), (6, .int (mxI v1 (0 : Int32)))]) (by simp) ?_
  exact WX8_paint_19 C hRm hd hn hk hw N hf
def fX8_paint (N : Nat) (v0 : Nat) (v1 : Int32) (v2 : Int32) (v3 : Int32) (c : mm_C) : mR Int32 := bX8_paint_0 N v0 v1 v2 v3 c
set_option maxRecDepth 100000 in
theorem wX8_paint {Z : mm_Z} {d n N : Nat} (hd : 2 ≤ d) (hn : n + 1 < 1000000) {v0 : Nat} {v1 : Int32} {v2 : Int32} {v3 : Int32} {c : mm_C} (hs : (fX8_paint N v0 v1 v2 v3 c).isSome = true) : mC Z qX8_paint d 1 6 [.ref v0, .int v1, .int v2, .int v3] (n, c) (mP 0 ovI n (fX8_paint N v0 v1 v2 v3 c)) := by
  refine mC_of gX8_paint (by decide +kernel) (Nat.le_of_ble_eq_true rfl) fun X C hRm => ?_
  have hf := hO_mP 0 ovI n hs
  have hk : 0 + 1 ≤ 1 := Nat.le_of_ble_eq_true rfl
  have hw : 0 + 6 ≤ 6 := Nat.le_of_ble_eq_true rfl
  show mG _ _ _ _ _ _ _ _ (0, [(0, .ref v0), (1, .int v1), (2, .int v2), (3, .int v3)], [], (n, c))
  exact wX8_paint_0 C hRm hd hn hk hw hf
