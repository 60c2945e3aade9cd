/- needs: 15.acall 15.fun 16.b8 16.b7 16.b4 -/
def bX3_clears_0 (N : Nat)  (v0 : Nat) (c : mm_C) : mR Unit :=
  Option.bind (pI c v0 3 0 (240 : Int32)) fun c1 => Option.bind (pI c1 v0 3 1 (50 : Int32)) fun c2 => Option.bind (pI c2 v0 3 2 (1 : Int32)) fun c3 => Option.bind (pI c3 v0 3 3 (0 : Int32)) fun c4 => Option.bind (pI c4 v0 3 4 (0 : Int32)) fun c5 => Option.bind (pI c5 v0 3 5 (0 : Int32)) fun c6 => Option.bind (gR c6 v0 3 7) fun x7 => cV 8 x7 c6 (fX8_clears N x7 c6) fun (_ : Unit) c8 => Option.bind (gR c8 v0 3 8) fun x9 => cV 4 x9 c8 (fX4_clears N x9 c8) fun (_ : Unit) c10 => some (.inl (), c10)
set_option maxRecDepth 100000 in
theorem wX3_clears_0 {Z : mm_Z} {X : mm_T} {k w mc ms d n N : Nat} {Q : mm_O → mm_H → Prop} (C : mm_Ok Z qX3_clears X) (hRm : mt_R X = mm_rm d mc ms) (hd : 2 ≤ d) (hn : n + 1 < 1000000) (hk : k + 1 ≤ mc) (hw : w + 6 ≤ ms) {v0 : Nat} {c : mm_C} (hf : hO 0 ovU n (bX3_clears_0 N  v0 c) Q) : mG Z qX3_clears X k w mc ms Q (0, [(0, .ref v0)], [], (n, c)) := by
  unfold bX3_clears_0 at hf
  refine mg_aload_n C rfl rfl ?_
  refine mg_sipush (v := 240) C rfl (by decide) ?_
  refine mh_pI C rfl rfl rfl (by decide) rfl rfl rfl hf (fun c1 hf => ?_)
  refine mg_aload_n C rfl rfl ?_
  refine mg_bipush (v := 50) C rfl (by decide) ?_
  refine mh_pI C rfl rfl rfl (by decide) rfl rfl rfl hf (fun c2 hf => ?_)
  refine mg_aload_n C rfl rfl ?_
  refine mg_iconst (v := 1) C rfl (by decide) ?_
  refine mh_pI C rfl rfl rfl (by decide) rfl rfl rfl hf (fun c3 hf => ?_)
  refine mg_aload_n C rfl rfl ?_
  refine mg_iconst (v := 0) C rfl (by decide) ?_
  refine mh_pI C rfl rfl rfl (by decide) rfl rfl rfl hf (fun c4 hf => ?_)
  refine mg_aload_n C rfl rfl ?_
  refine mg_iconst (v := 0) C rfl (by decide) ?_
  refine mh_pI C rfl rfl rfl (by decide) rfl rfl rfl hf (fun c5 hf => ?_)
  refine mg_aload_n C rfl rfl ?_
  refine mg_iconst (v := 0) C rfl (by decide) ?_
  refine mh_pI C rfl rfl rfl (by decide) rfl rfl rfl hf (fun c6 hf => ?_)
  refine mg_aload_n C rfl rfl ?_
  refine mh_gR C rfl rfl rfl (by decide) hf (fun x7 hf => ?_)
  refine mh_cVU (M' := qX8_clears) C rfl rfl aX8_clears iX8_clears sX8_clears hRm (by omega) (by decide) (by omega) (by omega) rfl rfl rfl (Nat.le_of_ble_eq_true rfl) rfl hf (fun hs => wX8_clears (by omega) (by omega) hs) (fun c8 hf => ?_)
  refine mg_aload_n C rfl rfl ?_
  refine mh_gR C rfl rfl rfl (by decide) hf (fun x9 hf => ?_)
  refine mh_cVU (M' := qX4_clears) C rfl rfl aX4_clears iX4_clears sX4_clears hRm (by omega) (by decide) (by omega) (by omega) rfl rfl rfl (Nat.le_of_ble_eq_true rfl) rfl hf (fun hs => wX4_clears (by omega) (by omega) hs) (fun c10 hf => ?_)
  exact mh_return C rfl (by omega) (by omega) rfl hf
def fX3_clears (N : Nat) (v0 : Nat) (c : mm_C) : mR Unit := bX3_clears_0 N v0 c
set_option maxRecDepth 100000 in
theorem wX3_clears {Z : mm_Z} {d n N : Nat} (hd : 2 ≤ d) (hn : n + 1 < 1000000) {v0 : Nat} {c : mm_C} (hs : (fX3_clears N v0 c).isSome = true) : mC Z qX3_clears d 1 6 [.ref v0] (n, c) (mP 0 ovU n (fX3_clears N v0 c)) := by
  refine mC_of gX3_clears (by decide +kernel) (Nat.le_of_ble_eq_true rfl) fun X C hRm => ?_
  have hf := hO_mP 0 ovU n hs
  have hk : 0 + 1 ≤ 1 := Nat.le_of_ble_eq_true rfl
  have hw : 0 + 6 ≤ 6 := Nat.le_of_ble_eq_true rfl
  show mG _ _ _ _ _ _ _ _ (0, [(0, .ref v0)], [], (n, c))
  exact wX3_clears_0 C hRm hd hn hk hw hf
def bX3_isShot_0 (N : Nat)  (v0 : Nat) (v1 : Int32) (c : mm_C) : mR Int32 :=
  if v1 < 0 then (rZ (0 : Int32) c) else (Option.bind (gI c v0 3 3) fun x1 => if x1 ≤ v1 then (rZ (0 : Int32) c) else (rZ (1 : Int32) c))
set_option maxRecDepth 100000 in
theorem wX3_isShot_0 {Z : mm_Z} {X : mm_T} {k w mc ms d n N : Nat} {Q : mm_O → mm_H → Prop} (C : mm_Ok Z qX3_isShot X) (hRm : mt_R X = mm_rm d mc ms) (hd : 1 ≤ d) (hn : n + 1 < 1000000) (hk : k + 1 ≤ mc) (hw : w + 6 ≤ ms) {v0 : Nat} {v1 : Int32} {c : mm_C} (hf : hO 0 ovI n (bX3_isShot_0 N  v0 v1 c) Q) : mG Z qX3_isShot X k w mc ms Q (0, [(0, .ref v0), (1, .int v1)], [], (n, c)) := by
  unfold bX3_isShot_0 at hf
  refine mg_iload_n C rfl rfl ?_
  refine mh_if_lt C rfl hf (fun e_1 hf => ?_) (fun e_1 hf => ?_)
  · refine mg_iconst (v := 0) C rfl (by decide) ?_
    exact mh_zreturn C rfl (by omega) (by omega) rfl hf
  · refine mg_iload_n C rfl rfl ?_
    refine mg_aload_n C rfl rfl ?_
    refine mh_gI C rfl rfl rfl (by decide) hf (fun x1 hf => ?_)
    refine mh_icmp_ge C rfl hf (fun e_9 hf => ?_) (fun e_9 hf => ?_)
    · refine mg_iconst (v := 0) C rfl (by decide) ?_
      exact mh_zreturn C rfl (by omega) (by omega) rfl hf
    · refine mg_iconst (v := 1) C rfl (by decide) ?_
      refine mg_goto C rfl ?_
      exact mh_zreturn C rfl (by omega) (by omega) rfl hf
def fX3_isShot (N : Nat) (v0 : Nat) (v1 : Int32) (c : mm_C) : mR Int32 := bX3_isShot_0 N v0 v1 c
set_option maxRecDepth 100000 in
theorem wX3_isShot {Z : mm_Z} {d n N : Nat} (hd : 1 ≤ d) (hn : n + 1 < 1000000) {v0 : Nat} {v1 : Int32} {c : mm_C} (hs : (fX3_isShot N v0 v1 c).isSome = true) : mC Z qX3_isShot d 1 6 [.ref v0, .int v1] (n, c) (mP 0 ovI n (fX3_isShot N v0 v1 c)) := by
  refine mC_of gX3_isShot (by decide +kernel) (Nat.le_of_ble_eq_true rfl) fun X C hRm => ?_
  have hf := hO_mP 0 ovI n hs
  have hk : 0 + 1 ≤ 1 := Nat.le_of_ble_eq_true rfl
  have hw : 0 + 6 ≤ 6 := Nat.le_of_ble_eq_true rfl
  show mG _ _ _ _ _ _ _ _ (0, [(0, .ref v0), (1, .int v1)], [], (n, c))
  exact wX3_isShot_0 C hRm hd hn hk hw hf
def bX3_isMinute_0 (N : Nat)  (v0 : Nat) (v1 : Int32) (c : mm_C) : mR Int32 :=
  if v1 < 0 then (rZ (0 : Int32) c) else (Option.bind (gI c v0 3 0) fun x1 => if x1 ≤ v1 then (rZ (0 : Int32) c) else (rZ (1 : Int32) c))
set_option maxRecDepth 100000 in
theorem wX3_isMinute_0 {Z : mm_Z} {X : mm_T} {k w mc ms d n N : Nat} {Q : mm_O → mm_H → Prop} (C : mm_Ok Z qX3_isMinute X) (hRm : mt_R X = mm_rm d mc ms) (hd : 1 ≤ d) (hn : n + 1 < 1000000) (hk : k + 1 ≤ mc) (hw : w + 6 ≤ ms) {v0 : Nat} {v1 : Int32} {c : mm_C} (hf : hO 0 ovI n (bX3_isMinute_0 N  v0 v1 c) Q) : mG Z qX3_isMinute X k w mc ms Q (0, [(0, .ref v0), (1, .int v1)], [], (n, c)) := by
  unfold bX3_isMinute_0 at hf
  refine mg_iload_n C rfl rfl ?_
  refine mh_if_lt C rfl hf (fun e_1 hf => ?_) (fun e_1 hf => ?_)
  · refine mg_iconst (v := 0) C rfl (by decide) ?_
    exact mh_zreturn C rfl (by omega) (by omega) rfl hf
  · refine mg_iload_n C rfl rfl ?_
    refine mg_aload_n C rfl rfl ?_
    refine mh_gI C rfl rfl rfl (by decide) hf (fun x1 hf => ?_)
    refine mh_icmp_ge C rfl hf (fun e_9 hf => ?_) (fun e_9 hf => ?_)
    · refine mg_iconst (v := 0) C rfl (by decide) ?_
      exact mh_zreturn C rfl (by omega) (by omega) rfl hf
    · refine mg_iconst (v := 1) C rfl (by decide) ?_
      refine mg_goto C rfl ?_
      exact mh_zreturn C rfl (by omega) (by omega) rfl hf
def fX3_isMinute (N : Nat) (v0 : Nat) (v1 : Int32) (c : mm_C) : mR Int32 := bX3_isMinute_0 N v0 v1 c
set_option maxRecDepth 100000 in
theorem wX3_isMinute {Z : mm_Z} {d n N : Nat} (hd : 1 ≤ d) (hn : n + 1 < 1000000) {v0 : Nat} {v1 : Int32} {c : mm_C} (hs : (fX3_isMinute N v0 v1 c).isSome = true) : mC Z qX3_isMinute d 1 6 [.ref v0, .int v1] (n, c) (mP 0 ovI n (fX3_isMinute N v0 v1 c)) := by
  refine mC_of gX3_isMinute (by decide +kernel) (Nat.le_of_ble_eq_true rfl) fun X C hRm => ?_
  have hf := hO_mP 0 ovI n hs
  have hk : 0 + 1 ≤ 1 := Nat.le_of_ble_eq_true rfl
  have hw : 0 + 6 ≤ 6 := Nat.le_of_ble_eq_true rfl
  show mG _ _ _ _ _ _ _ _ (0, [(0, .ref v0), (1, .int v1)], [], (n, c))
  exact wX3_isMinute_0 C hRm hd hn hk hw hf
def bX3_shotsAt_37 (N : Nat)  (v2 : Int32) (c : mm_C) : mR Int32 :=
  some (.inl v2, c)
set_option maxRecDepth 100000 in
theorem wX3_shotsAt_37 {Z : mm_Z} {X : mm_T} {k w mc ms d n N : Nat} {Q : mm_O → mm_H → Prop} (C : mm_Ok Z qX3_shotsAt X) (hRm : mt_R X = mm_rm d mc ms) (hd : 2 ≤ d) (hn : n + 1 < 1000000) (hk : k + 1 ≤ mc) (hw : w + 6 ≤ ms) {v2 : Int32} {c : mm_C} (hf : hO 0 ovI n (bX3_shotsAt_37 N  v2 c) Q) : mG Z qX3_shotsAt X k w mc ms Q (37, [(2, .int v2)], [], (n, c)) := by
  unfold bX3_shotsAt_37 at hf
  refine mg_iload_n C rfl rfl ?_
  exact mh_ireturn C rfl (by omega) (by omega) rfl hf
def bX3_shotsAt_31 (N : Nat)  (k4 : Nat → Int32 → Int32 → Int32 → mm_C → mR Int32) (v0 : Nat) (v1 : Int32) (v2 : Int32) (v3 : Int32) (c : mm_C) : mR Int32 :=
  k4 v0 v1 v2 (v3 + 1) c
set_option maxRecDepth 100000 in
theorem wX3_shotsAt_31 {Z : mm_Z} {X : mm_T} {k w mc ms d n N : Nat} {Q : mm_O → mm_H → Prop} (C : mm_Ok Z qX3_shotsAt X) (hRm : mt_R X = mm_rm d mc ms) (hd : 2 ≤ d) (hn : n + 1 < 1000000) (hk : k + 1 ≤ mc) (hw : w + 6 ≤ ms) {k4 : Nat → Int32 → Int32 → Int32 → mm_C → mR Int32} (hk4 : ∀ (v0 : Nat) (v1 : Int32) (v2 : Int32) (v3 : Int32) (c : mm_C), hO 0 ovI n (k4 v0 v1 v2 v3 c) Q → mG Z qX3_shotsAt X k w mc ms Q (4, [(0, .ref v0), (1, .int v1), (2, .int v2), (3, .int v3)], [], (n, c))) {v0 : Nat} {v1 : Int32} {v2 : Int32} {v3 : Int32} {c : mm_C} (hf : hO 0 ovI n (bX3_shotsAt_31 N  k4 v0 v1 v2 v3 c) Q) : mG Z qX3_shotsAt X k w mc ms Q (31, [(0, .ref v0), (1, .int v1), (2, .int v2), (3, .int v3)], [], (n, c)) := by
  unfold bX3_shotsAt_31 at hf
  refine mg_iinc (lv' := [(0, .ref v0), (1, .int v1), (2, .int v2), (3, .int (v3 + 1))]) C rfl (Nat.le_of_ble_eq_true rfl) rfl (show _ + Int32.ofInt 1 = _ + 1 by congr 1) rfl ?_
  refine mg_goto C rfl ?_
  exact hk4 _ _ _ _ _ hf
def bX3_shotsAt_4 (N : Nat)  (k4 : Nat → Int32 → Int32 → Int32 → mm_C → mR Int32) (v0 : Nat) (v1 : Int32) (v2 : Int32) (v3 : Int32) (c : mm_C) : mR Int32 :=
  Option.bind (gI c v0 3 3) fun x1 => if x1 ≤ v3 then (bX3_shotsAt_37 N  v2 c) else (Option.bind (gR c v0 3 6) fun x2 => Option.bind (aR (.object "CloudTakes$Shot") c x2 v3) fun x3 => cV 7 x3 c (fX7_place N x3 c) fun r4 c5 => if ¬ r4 = v1 then (bX3_shotsAt_31 N  k4 v0 v1 v2 v3 c5) else (bX3_shotsAt_31 N  k4 v0 v1 (v2 ||| ((1 : Int32) <<< (v3 &&& 31))) v3 c5))
set_option maxRecDepth 100000 in
theorem wX3_shotsAt_4 {Z : mm_Z} {X : mm_T} {k w mc ms d n N : Nat} {Q : mm_O → mm_H → Prop} (C : mm_Ok Z qX3_shotsAt X) (hRm : mt_R X = mm_rm d mc ms) (hd : 2 ≤ d) (hn : n + 1 < 1000000) (hk : k + 1 ≤ mc) (hw : w + 6 ≤ ms) {k4 : Nat → Int32 → Int32 → Int32 → mm_C → mR Int32} (hk4 : ∀ (v0 : Nat) (v1 : Int32) (v2 : Int32) (v3 : Int32) (c : mm_C), hO 0 ovI n (k4 v0 v1 v2 v3 c) Q → mG Z qX3_shotsAt X k w mc ms Q (4, [(0, .ref v0), (1, .int v1), (2, .int v2), (3, .int v3)], [], (n, c))) {v0 : Nat} {v1 : Int32} {v2 : Int32} {v3 : Int32} {c : mm_C} (hf : hO 0 ovI n (bX3_shotsAt_4 N  k4 v0 v1 v2 v3 c) Q) : mG Z qX3_shotsAt X k w mc ms Q (4, [(0, .ref v0), (1, .int v1), (2, .int v2), (3, .int v3)], [], (n, c)) := by
  unfold bX3_shotsAt_4 at hf
  refine mg_iload_n C rfl rfl ?_
  refine mg_aload_n C rfl rfl ?_
  refine mh_gI C rfl rfl rfl (by decide) hf (fun x1 hf => ?_)
  refine mh_icmp_ge C rfl hf (fun e_9 hf => ?_) (fun e_9 hf => ?_)
  · refine mg_sub (lv' := [(2, .int v2)]) (by simp) ?_
    exact wX3_shotsAt_37 C hRm hd hn hk hw hf
  · refine mg_aload_n C rfl rfl ?_
    refine mh_gR C rfl rfl rfl (by decide) hf (fun x2 hf => ?_)
    refine mg_iload_n C rfl rfl ?_
    refine mh_aR (ti := 4) C rfl rfl rfl hf (fun x3 hf => ?_)
    refine mh_cVI (M' := qX7_place) C rfl rfl aX7_place iX7_place sX7_place hRm (by omega) (by decide) (by omega) (by omega) rfl rfl rfl (Nat.le_of_ble_eq_true rfl) rfl hf (fun hs => wX7_place (by omega) (by omega) hs) (fun r4 c5 hf => ?_)
    refine mg_iload_n C rfl rfl ?_
    refine mh_icmp_ne C rfl hf (fun e_22 hf => ?_) (fun e_22 hf => ?_)
    · exact wX3_shotsAt_31 C hRm hd hn hk hw hk4 hf
    · refine mg_iload_n C rfl rfl ?_
      refine mg_iconst (v := 1) C rfl (by decide) ?_
      refine mg_iload_n C rfl rfl ?_
      refine mg_ishl C rfl ?_
      refine mg_ior C rfl ?_
      refine mg_istore_n (lv' := [(0, .ref v0), (1, .int v1), (2, .int (v2 ||| ((1 : Int32) <<< (v3 &&& 31)))), (3, .int v3)]) C rfl (Nat.le_of_ble_eq_true rfl) rfl ?_
      exact wX3_shotsAt_31 C hRm hd hn hk hw hk4 hf
def lX3_shotsAt_4 (N : Nat)  : Nat → Nat → Int32 → Int32 → Int32 → mm_C → mR Int32
  | 0, _, _, _, _, _ => none
  | m + 1, v0, v1, v2, v3, c => bX3_shotsAt_4 N  (lX3_shotsAt_4 N  m) v0 v1 v2 v3 c
theorem WX3_shotsAt_4 {Z : mm_Z} {X : mm_T} {k w mc ms d n N : Nat} {Q : mm_O → mm_H → Prop} (C : mm_Ok Z qX3_shotsAt X) (hRm : mt_R X = mm_rm d mc ms) (hd : 2 ≤ d) (hn : n + 1 < 1000000) (hk : k + 1 ≤ mc) (hw : w + 6 ≤ ms) : ∀ (m : Nat) {v0 : Nat} {v1 : Int32} {v2 : Int32} {v3 : Int32} {c : mm_C} (hf : hO 0 ovI n (lX3_shotsAt_4 N  m v0 v1 v2 v3 c) Q), mG Z qX3_shotsAt X k w mc ms Q (4, [(0, .ref v0), (1, .int v1), (2, .int v2), (3, .int v3)], [], (n, c)) := by
  intro m
  induction m with
  | zero => intro v0 v1 v2 v3 c hf; exact absurd hf hO_none
  | succ m ih => intro v0 v1 v2 v3 c hf; exact wX3_shotsAt_4 C hRm hd hn hk hw (fun v0 v1 v2 v3 c hf => ih hf) hf
def bX3_shotsAt_0 (N : Nat)  (v0 : Nat) (v1 : Int32) (c : mm_C) : mR Int32 :=
  lX3_shotsAt_4 N  N v0 v1 (0 : Int32) (0 : Int32) c
set_option maxRecDepth 100000 in
theorem wX3_shotsAt_0 {Z : mm_Z} {X : mm_T} {k w mc ms d n N : Nat} {Q : mm_O → mm_H → Prop} (C : mm_Ok Z qX3_shotsAt X) (hRm : mt_R X = mm_rm d mc ms) (hd : 2 ≤ d) (hn : n + 1 < 1000000) (hk : k + 1 ≤ mc) (hw : w + 6 ≤ ms) {v0 : Nat} {v1 : Int32} {c : mm_C} (hf : hO 0 ovI n (bX3_shotsAt_0 N  v0 v1 c) Q) : mG Z qX3_shotsAt X k w mc ms Q (0, [(0, .ref v0), (1, .int v1)], [], (n, c)) := by
  unfold bX3_shotsAt_0 at hf
  refine mg_iconst (v := 0) C rfl (by decide) ?_
  refine mg_istore_n (lv' := [(0, .ref v0), (1, .int v1), (2, .int (0 : Int32))]) C rfl (Nat.le_of_ble_eq_true rfl) rfl ?_
  refine mg_iconst (v := 0) C rfl (by decide) ?_
  refine mg_istore_n (lv' := [(0, .ref v0), (1, .int v1), (2, .int (0 : Int32)), (3, .int (0 : Int32))]) C rfl (Nat.le_of_ble_eq_true rfl) rfl ?_
  exact WX3_shotsAt_4 C hRm hd hn hk hw N hf
def fX3_shotsAt (N : Nat) (v0 : Nat) (v1 : Int32) (c : mm_C) : mR Int32 := bX3_shotsAt_0 N v0 v1 c
set_option maxRecDepth 100000 in
theorem wX3_shotsAt {Z : mm_Z} {d n N : Nat} (hd : 2 ≤ d) (hn : n + 1 < 1000000) {v0 : Nat} {v1 : Int32} {c : mm_C} (hs : (fX3_shotsAt N v0 v1 c).isSome = true) : mC Z qX3_shotsAt d 1 6 [.ref v0, .int v1] (n, c) (mP 0 ovI n (fX3_shotsAt N v0 v1 c)) := by
  refine mC_of gX3_shotsAt (by decide +kernel) (Nat.le_of_ble_eq_true rfl) fun X C hRm => ?_
  have hf := hO_mP 0 ovI n hs
  have hk : 0 + 1 ≤ 1 := Nat.le_of_ble_eq_true rfl
  have hw : 0 + 6 ≤ 6 := Nat.le_of_ble_eq_true rfl
  show mG _ _ _ _ _ _ _ _ (0, [(0, .ref v0), (1, .int v1)], [], (n, c))
  exact wX3_shotsAt_0 C hRm hd hn hk hw hf
def bX3_addPart_0 (N : Nat)  (v0 : Nat) (v1 : Int32) (v2 : Int32) (c : mm_C) : mR Unit :=
  Option.bind (gR c v0 3 7) fun x1 => Option.bind (gI c v0 3 5) fun x2 => Option.bind (gI c v0 3 5) fun x3 => cV 8 x1 c (fX8_paint N x1 x2 ((x3 + v2) - (1 : Int32)) v1 c) fun r4 c5 => Option.bind (gI c5 v0 3 5) fun x6 => Option.bind (pI c5 v0 3 5 (x6 + v2)) fun c7 => Option.bind (gI c7 v0 3 4) fun x8 => Option.bind (pI c7 v0 3 4 (x8 + (1 : Int32))) fun c9 => some (.inl (), c9)
set_option maxRecDepth 100000 in
theorem wX3_addPart_0 {Z : mm_Z} {X : mm_T} {k w mc ms d n N : Nat} {Q : mm_O → mm_H → Prop} (C : mm_Ok Z qX3_addPart X) (hRm : mt_R X = mm_rm d mc ms) (hd : 3 ≤ d) (hn : n + 1 < 1000000) (hk : k + 1 ≤ mc) (hw : w + 6 ≤ ms) {v0 : Nat} {v1 : Int32} {v2 : Int32} {c : mm_C} (hf : hO 0 ovU n (bX3_addPart_0 N  v0 v1 v2 c) Q) : mG Z qX3_addPart X k w mc ms Q (0, [(0, .ref v0), (1, .int v1), (2, .int v2)], [], (n, c)) := by
  unfold bX3_addPart_0 at hf
  refine mg_aload_n C rfl rfl ?_
  refine mh_gR C rfl rfl rfl (by decide) hf (fun x1 hf => ?_)
  refine mg_aload_n C rfl rfl ?_
  refine mh_gI C rfl rfl rfl (by decide) hf (fun x2 hf => ?_)
  refine mg_aload_n C rfl rfl ?_
  refine mh_gI C rfl rfl rfl (by decide) hf (fun x3 hf => ?_)
  refine mg_iload_n C rfl rfl ?_
  refine mg_iadd C rfl ?_
  refine mg_iconst (v := 1) C rfl (by decide) ?_
  refine mg_isub C rfl ?_
  refine mg_iload_n C rfl rfl ?_
  refine mh_cVI (M' := qX8_paint) C rfl rfl aX8_paint iX8_paint sX8_paint hRm (by omega) (by decide) (by omega) (by omega) rfl rfl rfl (Nat.le_of_ble_eq_true rfl) rfl hf (fun hs => wX8_paint (by omega) (by omega) hs) (fun r4 c5 hf => ?_)
  refine mg_pop C rfl rfl ?_
  refine mg_aload_n C rfl rfl ?_
  refine mg_dup C rfl rfl ?_
  refine mh_gI C rfl rfl rfl (by decide) hf (fun x6 hf => ?_)
  refine mg_iload_n C rfl rfl ?_
  refine mg_iadd C rfl ?_
  refine mh_pI C rfl rfl rfl (by decide) rfl rfl rfl hf (fun c7 hf => ?_)
  refine mg_aload_n C rfl rfl ?_
  refine mg_dup C rfl rfl ?_
  refine mh_gI C rfl rfl rfl (by decide) hf (fun x8 hf => ?_)
  refine mg_iconst (v := 1) C rfl (by decide) ?_
  refine mg_iadd C rfl ?_
  refine mh_pI C rfl rfl rfl (by decide) rfl rfl rfl hf (fun c9 hf => ?_)
  exact mh_return C rfl (by omega) (by omega) rfl hf
def fX3_addPart (N : Nat) (v0 : Nat) (v1 : Int32) (v2 : Int32) (c : mm_C) : mR Unit := bX3_addPart_0 N v0 v1 v2 c
set_option maxRecDepth 100000 in
theorem wX3_addPart {Z : mm_Z} {d n N : Nat} (hd : 3 ≤ d) (hn : n + 1 < 1000000) {v0 : Nat} {v1 : Int32} {v2 : Int32} {c : mm_C} (hs : (fX3_addPart N v0 v1 v2 c).isSome = true) : mC Z qX3_addPart d 1 6 [.ref v0, .int v1, .int v2] (n, c) (mP 0 ovU n (fX3_addPart N v0 v1 v2 c)) := by
  refine mC_of gX3_addPart (by decide +kernel) (Nat.le_of_ble_eq_true rfl) fun X C hRm => ?_
  have hf := hO_mP 0 ovU n hs
  have hk : 0 + 1 ≤ 1 := Nat.le_of_ble_eq_true rfl
  have hw : 0 + 6 ≤ 6 := Nat.le_of_ble_eq_true rfl
  show mG _ _ _ _ _ _ _ _ (0, [(0, .ref v0), (1, .int v1), (2, .int v2)], [], (n, c))
  exact wX3_addPart_0 C hRm hd hn hk hw hf
def bX3_addShot_0 (N : Nat)  (v0 : Nat) (c : mm_C) : mR Nat :=
  Option.bind (gR c v0 3 6) fun x1 => Option.bind (gI c v0 3 3) fun x2 => Option.bind (aR (.object "CloudTakes$Shot") c x1 (mnI x2 (7 : Int32))) fun x3 => Option.bind (gI c v0 3 3) fun x4 => Option.bind (pI c v0 3 3 (mnI (x4 + (1 : Int32)) (8 : Int32))) fun c5 => some (.inl x3, c5)
set_option maxRecDepth 100000 in
theorem wX3_addShot_0 {Z : mm_Z} {X : mm_T} {k w mc ms d n N : Nat} {Q : mm_O → mm_H → Prop} (C : mm_Ok Z qX3_addShot X) (hRm : mt_R X = mm_rm d mc ms) (hd : 1 ≤ d) (hn : n + 1 < 1000000) (hk : k + 1 ≤ mc) (hw : w + 6 ≤ ms) {v0 : Nat} {c : mm_C} (hf : hO 0 ovR n (bX3_addShot_0 N  v0 c) Q) : mG Z qX3_addShot X k w mc ms Q (0, [(0, .ref v0)], [], (n, c)) := by
  unfold bX3_addShot_0 at hf
  refine mg_aload_n C rfl rfl ?_
  refine mh_gR C rfl rfl rfl (by decide) hf (fun x1 hf => ?_)
  refine mg_aload_n C rfl rfl ?_
  refine mh_gI C rfl rfl rfl (by decide) hf (fun x2 hf => ?_)
  refine mg_bipush (v := 7) C rfl (by decide) ?_
  refine mh_mnI C rfl rfl hRm (by omega) (Nat.le_of_ble_eq_true rfl) ?_
  refine mh_aR (ti := 4) C rfl rfl rfl hf (fun x3 hf => ?_)
  refine mg_astore_n (lv' := [(0, .ref v0), (1, .ref x3)]) C rfl (Nat.le_of_ble_eq_true rfl) rfl ?_
  refine mg_aload_n C rfl rfl ?_
  refine mg_aload_n C rfl rfl ?_
  refine mh_gI C rfl rfl rfl (by decide) hf (fun x4 hf => ?_)
  refine mg_iconst (v := 1) C rfl (by decide) ?_
  refine mg_iadd C rfl ?_
  refine mg_bipush (v := 8) C rfl (by decide) ?_
  refine mh_mnI C rfl rfl hRm (by omega) (Nat.le_of_ble_eq_true rfl) ?_
  refine mh_pI C rfl rfl rfl (by decide) rfl rfl rfl hf (fun c5 hf => ?_)
  refine mg_aload_n C rfl rfl ?_
  exact mh_areturn C rfl (by omega) (by omega) rfl hf
def fX3_addShot (N : Nat) (v0 : Nat) (c : mm_C) : mR Nat := bX3_addShot_0 N v0 c
set_option maxRecDepth 100000 in
theorem wX3_addShot {Z : mm_Z} {d n N : Nat} (hd : 1 ≤ d) (hn : n + 1 < 1000000) {v0 : Nat} {c : mm_C} (hs : (fX3_addShot N v0 c).isSome = true) : mC Z qX3_addShot d 1 6 [.ref v0] (n, c) (mP 0 ovR n (fX3_addShot N v0 c)) := by
  refine mC_of gX3_addShot (by decide +kernel) (Nat.le_of_ble_eq_true rfl) fun X C hRm => ?_
  have hf := hO_mP 0 ovR n hs
  have hk : 0 + 1 ≤ 1 := Nat.le_of_ble_eq_true rfl
  have hw : 0 + 6 ≤ 6 := Nat.le_of_ble_eq_true rfl
  show mG _ _ _ _ _ _ _ _ (0, [(0, .ref v0)], [], (n, c))
  exact wX3_addShot_0 C hRm hd hn hk hw hf
