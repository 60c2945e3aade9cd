/- needs: 15.acall 15.fun  -/
def hE_X12_readExpression (Z : mm_Z) (dE : Nat) (eE : Nat → Int32 → mm_C → mR Unit) : Prop := ∀ d, dE ≤ d → ∀ n, n + 1 < 1000000 → ∀ (v0 : Nat) (v1 : Int32) (c : mm_C), (eE v0 v1 c).isSome = true → mC Z qX12_readExpression d 1 6 [.ref v0, .int v1] (n, c) (mP 0 ovU n (eE v0 v1 c))
def bX12_thrown_0 (N : Nat)  (v0 : Nat) (c : mm_C) : mR Int32 :=
  Option.bind (gI c v0 12 2) fun x1 => some (.inl x1, c)
set_option maxRecDepth 100000 in
theorem wX12_thrown_0 {Z : mm_Z} {X : mm_T} {k w mc ms d n N : Nat} {Q : mm_O → mm_H → Prop} (C : mm_Ok Z qX12_thrown X) (hRm : mt_R X = mm_rm d mc ms) (hd : 1 ≤ d) (hn : n + 1 < 1000000) (hk : k + 1 ≤ mc) (hw : w + 6 ≤ ms) {v0 : Nat} {c : mm_C} (hf : hO 0 ovI n (bX12_thrown_0 N  v0 c) Q) : mG Z qX12_thrown X k w mc ms Q (0, [(0, .ref v0)], [], (n, c)) := by
  unfold bX12_thrown_0 at hf
  refine mg_aload_n C rfl rfl ?_
  refine mh_gI C rfl rfl rfl (by decide) hf (fun x1 hf => ?_)
  exact mh_ireturn C rfl (by omega) (by omega) rfl hf
def fX12_thrown (N : Nat) (v0 : Nat) (c : mm_C) : mR Int32 := bX12_thrown_0 N v0 c
set_option maxRecDepth 100000 in
theorem wX12_thrown {Z : mm_Z} {d n N : Nat} (hd : 1 ≤ d) (hn : n + 1 < 1000000) {v0 : Nat} {c : mm_C} (hs : (fX12_thrown N v0 c).isSome = true) : mC Z qX12_thrown d 1 6 [.ref v0] (n, c) (mP 0 ovI n (fX12_thrown N v0 c)) := by
  refine mC_of gX12_thrown (by decide +kernel) (Nat.le_of_ble_eq_true rfl) fun X C hRm => ?_
  have hf := hO_mP 0 ovI n hs
  have hk : 0 + 1 ≤ 1 := Nat.le_of_ble_eq_true rfl
  have hw : 0 + 6 ≤ 6 := Nat.le_of_ble_eq_true rfl
  show mG _ _ _ _ _ _ _ _ (0, [(0, .ref v0)], [], (n, c))
  exact wX12_thrown_0 C hRm hd hn hk hw hf
def bX12_fail_0 (N : Nat)  (v0 : Nat) (v1 : Int32) (c : mm_C) : mR Int32 :=
  Option.bind (pI c v0 12 2 v1) fun c1 => some (.inl (0 : Int32), c1)
set_option maxRecDepth 100000 in
theorem wX12_fail_0 {Z : mm_Z} {X : mm_T} {k w mc ms d n N : Nat} {Q : mm_O → mm_H → Prop} (C : mm_Ok Z qX12_fail X) (hRm : mt_R X = mm_rm d mc ms) (hd : 1 ≤ d) (hn : n + 1 < 1000000) (hk : k + 1 ≤ mc) (hw : w + 6 ≤ ms) {v0 : Nat} {v1 : Int32} {c : mm_C} (hf : hO 0 ovI n (bX12_fail_0 N  v0 v1 c) Q) : mG Z qX12_fail X k w mc ms Q (0, [(0, .ref v0), (1, .int v1)], [], (n, c)) := by
  unfold bX12_fail_0 at hf
  refine mg_aload_n C rfl rfl ?_
  refine mg_iload_n C rfl rfl ?_
  refine mh_pI C rfl rfl rfl (by decide) rfl rfl rfl hf (fun c1 hf => ?_)
  refine mg_iconst (v := 0) C rfl (by decide) ?_
  exact mh_ireturn C rfl (by omega) (by omega) rfl hf
def fX12_fail (N : Nat) (v0 : Nat) (v1 : Int32) (c : mm_C) : mR Int32 := bX12_fail_0 N v0 v1 c
set_option maxRecDepth 100000 in
theorem wX12_fail {Z : mm_Z} {d n N : Nat} (hd : 1 ≤ d) (hn : n + 1 < 1000000) {v0 : Nat} {v1 : Int32} {c : mm_C} (hs : (fX12_fail N v0 v1 c).isSome = true) : mC Z qX12_fail d 1 6 [.ref v0, .int v1] (n, c) (mP 0 ovI n (fX12_fail N v0 v1 c)) := by
  refine mC_of gX12_fail (by decide +kernel) (Nat.le_of_ble_eq_true rfl) fun X C hRm => ?_
  have hf := hO_mP 0 ovI n hs
  have hk : 0 + 1 ≤ 1 := Nat.le_of_ble_eq_true rfl
  have hw : 0 + 6 ≤ 6 := Nat.le_of_ble_eq_true rfl
  show mG _ _ _ _ _ _ _ _ (0, [(0, .ref v0), (1, .int v1)], [], (n, c))
  exact wX12_fail_0 C hRm hd hn hk hw hf
def bX12_isIn_0 (N : Nat)  (v0 : Int64) (v2 : Int64) (v4 : Int64) (c : mm_C) : mR Int32 :=
  if (lg_cmp v0 v2) < 0 then (rZ (0 : Int32) c) else (if 0 < (lg_cmp v0 v4) then (rZ (0 : Int32) c) else (rZ (1 : Int32) c))
set_option maxRecDepth 100000 in
theorem wX12_isIn_0 {Z : mm_Z} {X : mm_T} {k w mc ms d n N : Nat} {Q : mm_O → mm_H → Prop} (C : mm_Ok Z qX12_isIn X) (hRm : mt_R X = mm_rm d mc ms) (hd : 1 ≤ d) (hn : n + 1 < 1000000) (hk : k + 1 ≤ mc) (hw : w + 6 ≤ ms) {v0 : Int64} {v2 : Int64} {v4 : Int64} {c : mm_C} (hf : hO 0 ovI n (bX12_isIn_0 N  v0 v2 v4 c) Q) : mG Z qX12_isIn X k w mc ms Q (0, [(0, .long v0), (2, .long v2), (4, .long v4)], [], (n, c)) := by
  unfold bX12_isIn_0 at hf
  refine mg_lload_n C rfl rfl ?_
  refine mg_lload_n C rfl rfl ?_
  refine mg_lcmp C rfl ?_
  refine mh_if_lt C rfl hf (fun e_3 hf => ?_) (fun e_3 hf => ?_)
  · refine mg_iconst (v := 0) C rfl (by decide) ?_
    exact mh_zreturn C rfl (by omega) (by omega) rfl hf
  · refine mg_lload_n C rfl rfl ?_
    refine mg_lload C rfl rfl ?_
    refine mg_lcmp C rfl ?_
    refine mh_if_gt C rfl hf (fun e_10 hf => ?_) (fun e_10 hf => ?_)
    · refine mg_iconst (v := 0) C rfl (by decide) ?_
      exact mh_zreturn C rfl (by omega) (by omega) rfl hf
    · refine mg_iconst (v := 1) C rfl (by decide) ?_
      refine mg_goto C rfl ?_
      exact mh_zreturn C rfl (by omega) (by omega) rfl hf
def fX12_isIn (N : Nat) (v0 : Int64) (v2 : Int64) (v4 : Int64) (c : mm_C) : mR Int32 := bX12_isIn_0 N v0 v2 v4 c
set_option maxRecDepth 100000 in
theorem wX12_isIn {Z : mm_Z} {d n N : Nat} (hd : 1 ≤ d) (hn : n + 1 < 1000000) {v0 : Int64} {v2 : Int64} {v4 : Int64} {c : mm_C} (hs : (fX12_isIn N v0 v2 v4 c).isSome = true) : mC Z qX12_isIn d 1 6 [.long v0, .long v2, .long v4] (n, c) (mP 0 ovI n (fX12_isIn N v0 v2 v4 c)) := by
  refine mC_of gX12_isIn (by decide +kernel) (Nat.le_of_ble_eq_true rfl) fun X C hRm => ?_
  have hf := hO_mP 0 ovI n hs
  have hk : 0 + 1 ≤ 1 := Nat.le_of_ble_eq_true rfl
  have hw : 0 + 6 ≤ 6 := Nat.le_of_ble_eq_true rfl
  show mG _ _ _ _ _ _ _ _ (0, [(0, .long v0), (2, .long v2), (4, .long v4)], [], (n, c))
  exact wX12_isIn_0 C hRm hd hn hk hw hf
def bX12_isOf_0 (N : Nat)  (v0 : Int32) (v1 : Int32) (c : mm_C) : mR Int32 :=
  if ¬ ((v0 >>> (v1 &&& 31)) &&& (1 : Int32)) = (1 : Int32) then (rZ (0 : Int32) c) else (rZ (1 : Int32) c)
set_option maxRecDepth 100000 in
theorem wX12_isOf_0 {Z : mm_Z} {X : mm_T} {k w mc ms d n N : Nat} {Q : mm_O → mm_H → Prop} (C : mm_Ok Z qX12_isOf X) (hRm : mt_R X = mm_rm d mc ms) (hd : 1 ≤ d) (hn : n + 1 < 1000000) (hk : k + 1 ≤ mc) (hw : w + 6 ≤ ms) {v0 : Int32} {v1 : Int32} {c : mm_C} (hf : hO 0 ovI n (bX12_isOf_0 N  v0 v1 c) Q) : mG Z qX12_isOf X k w mc ms Q (0, [(0, .int v0), (1, .int v1)], [], (n, c)) := by
  unfold bX12_isOf_0 at hf
  refine mg_iload_n C rfl rfl ?_
  refine mg_iload_n C rfl rfl ?_
  refine mg_ishr C rfl ?_
  refine mg_iconst (v := 1) C rfl (by decide) ?_
  refine mg_iand C rfl ?_
  refine mg_iconst (v := 1) C rfl (by decide) ?_
  refine mh_icmp_ne C rfl hf (fun e_6 hf => ?_) (fun e_6 hf => ?_)
  · refine mg_iconst (v := 0) C rfl (by decide) ?_
    exact mh_zreturn C rfl (by omega) (by omega) rfl hf
  · refine mg_iconst (v := 1) C rfl (by decide) ?_
    refine mg_goto C rfl ?_
    exact mh_zreturn C rfl (by omega) (by omega) rfl hf
def fX12_isOf (N : Nat) (v0 : Int32) (v1 : Int32) (c : mm_C) : mR Int32 := bX12_isOf_0 N v0 v1 c
set_option maxRecDepth 100000 in
theorem wX12_isOf {Z : mm_Z} {d n N : Nat} (hd : 1 ≤ d) (hn : n + 1 < 1000000) {v0 : Int32} {v1 : Int32} {c : mm_C} (hs : (fX12_isOf N v0 v1 c).isSome = true) : mC Z qX12_isOf d 1 6 [.int v0, .int v1] (n, c) (mP 0 ovI n (fX12_isOf N v0 v1 c)) := by
  refine mC_of gX12_isOf (by decide +kernel) (Nat.le_of_ble_eq_true rfl) fun X C hRm => ?_
  have hf := hO_mP 0 ovI n hs
  have hk : 0 + 1 ≤ 1 := Nat.le_of_ble_eq_true rfl
  have hw : 0 + 6 ≤ 6 := Nat.le_of_ble_eq_true rfl
  show mG _ _ _ _ _ _ _ _ (0, [(0, .int v0), (1, .int v1)], [], (n, c))
  exact wX12_isOf_0 C hRm hd hn hk hw hf
def bX12_isShot_0 (N : Nat)  (v0 : Nat) (v1 : Int32) (c : mm_C) : mR Int32 :=
  Option.bind (gR c v0 12 3) fun x1 => Option.bind (aI c x1 (0 : Int32)) fun x2 => cS (fX12_isIn N v1.toInt64 (0 : Int64) ((x2 - (1 : Int32)).toInt64) c) fun r3 c4 => rZ r3 c4
set_option maxRecDepth 100000 in
theorem wX12_isShot_0 {Z : mm_Z} {X : mm_T} {k w mc ms d n N : Nat} {Q : mm_O → mm_H → Prop} (C : mm_Ok Z qX12_isShot X) (hRm : mt_R X = mm_rm d mc ms) (hd : 2 ≤ d) (hn : n + 1 < 1000000) (hk : k + 1 ≤ mc) (hw : w + 6 ≤ ms) {v0 : Nat} {v1 : Int32} {c : mm_C} (hf : hO 0 ovI n (bX12_isShot_0 N  v0 v1 c) Q) : mG Z qX12_isShot X k w mc ms Q (0, [(0, .ref v0), (1, .int v1)], [], (n, c)) := by
  unfold bX12_isShot_0 at hf
  refine mg_iload_n C rfl rfl ?_
  refine mg_i2l C rfl ?_
  refine mg_lconst (v := 0) C rfl (by decide) ?_
  refine mg_aload_n C rfl rfl ?_
  refine mh_gR C rfl rfl rfl (by decide) hf (fun x1 hf => ?_)
  refine mg_iconst (v := 0) C rfl (by decide) ?_
  refine mh_aI C rfl hf (fun x2 hf => ?_)
  refine mg_iconst (v := 1) C rfl (by decide) ?_
  refine mg_isub C rfl ?_
  refine mg_i2l C rfl ?_
  refine mh_cSI (M' := qX12_isIn) C rfl rfl aX12_isIn tX12_isIn hRm (by omega) (by decide) (by omega) (by omega) rfl rfl (Nat.le_of_ble_eq_true rfl) rfl hf (fun hs => wX12_isIn (by omega) (by omega) hs) (fun r3 c4 hf => ?_)
  exact mh_zreturn C rfl (by omega) (by omega) rfl hf
def fX12_isShot (N : Nat) (v0 : Nat) (v1 : Int32) (c : mm_C) : mR Int32 := bX12_isShot_0 N v0 v1 c
set_option maxRecDepth 100000 in
theorem wX12_isShot {Z : mm_Z} {d n N : Nat} (hd : 2 ≤ d) (hn : n + 1 < 1000000) {v0 : Nat} {v1 : Int32} {c : mm_C} (hs : (fX12_isShot N v0 v1 c).isSome = true) : mC Z qX12_isShot d 1 6 [.ref v0, .int v1] (n, c) (mP 0 ovI n (fX12_isShot N v0 v1 c)) := by
  refine mC_of gX12_isShot (by decide +kernel) (Nat.le_of_ble_eq_true rfl) fun X C hRm => ?_
  have hf := hO_mP 0 ovI n hs
  have hk : 0 + 1 ≤ 1 := Nat.le_of_ble_eq_true rfl
  have hw : 0 + 6 ≤ 6 := Nat.le_of_ble_eq_true rfl
  show mG _ _ _ _ _ _ _ _ (0, [(0, .ref v0), (1, .int v1)], [], (n, c))
  exact wX12_isShot_0 C hRm hd hn hk hw hf
def bX12_isMinute_0 (N : Nat)  (v0 : Nat) (v1 : Int32) (c : mm_C) : mR Int32 :=
  Option.bind (gR c v0 12 3) fun x1 => Option.bind (aI c x1 (1 : Int32)) fun x2 => cS (fX12_isIn N v1.toInt64 (0 : Int64) ((x2 - (1 : Int32)).toInt64) c) fun r3 c4 => rZ r3 c4
set_option maxRecDepth 100000 in
theorem wX12_isMinute_0 {Z : mm_Z} {X : mm_T} {k w mc ms d n N : Nat} {Q : mm_O → mm_H → Prop} (C : mm_Ok Z qX12_isMinute X) (hRm : mt_R X = mm_rm d mc ms) (hd : 2 ≤ d) (hn : n + 1 < 1000000) (hk : k + 1 ≤ mc) (hw : w + 6 ≤ ms) {v0 : Nat} {v1 : Int32} {c : mm_C} (hf : hO 0 ovI n (bX12_isMinute_0 N  v0 v1 c) Q) : mG Z qX12_isMinute X k w mc ms Q (0, [(0, .ref v0), (1, .int v1)], [], (n, c)) := by
  unfold bX12_isMinute_0 at hf
  refine mg_iload_n C rfl rfl ?_
  refine mg_i2l C rfl ?_
  refine mg_lconst (v := 0) C rfl (by decide) ?_
  refine mg_aload_n C rfl rfl ?_
  refine mh_gR C rfl rfl rfl (by decide) hf (fun x1 hf => ?_)
  refine mg_iconst (v := 1) C rfl (by decide) ?_
  refine mh_aI C rfl hf (fun x2 hf => ?_)
  refine mg_iconst (v := 1) C rfl (by decide) ?_
  refine mg_isub C rfl ?_
  refine mg_i2l C rfl ?_
  refine mh_cSI (M' := qX12_isIn) C rfl rfl aX12_isIn tX12_isIn hRm (by omega) (by decide) (by omega) (by omega) rfl rfl (Nat.le_of_ble_eq_true rfl) rfl hf (fun hs => wX12_isIn (by omega) (by omega) hs) (fun r3 c4 hf => ?_)
  exact mh_zreturn C rfl (by omega) (by omega) rfl hf
def fX12_isMinute (N : Nat) (v0 : Nat) (v1 : Int32) (c : mm_C) : mR Int32 := bX12_isMinute_0 N v0 v1 c
set_option maxRecDepth 100000 in
theorem wX12_isMinute {Z : mm_Z} {d n N : Nat} (hd : 2 ≤ d) (hn : n + 1 < 1000000) {v0 : Nat} {v1 : Int32} {c : mm_C} (hs : (fX12_isMinute N v0 v1 c).isSome = true) : mC Z qX12_isMinute d 1 6 [.ref v0, .int v1] (n, c) (mP 0 ovI n (fX12_isMinute N v0 v1 c)) := by
  refine mC_of gX12_isMinute (by decide +kernel) (Nat.le_of_ble_eq_true rfl) fun X C hRm => ?_
  have hf := hO_mP 0 ovI n hs
  have hk : 0 + 1 ≤ 1 := Nat.le_of_ble_eq_true rfl
  have hw : 0 + 6 ≤ 6 := Nat.le_of_ble_eq_true rfl
  show mG _ _ _ _ _ _ _ _ (0, [(0, .ref v0), (1, .int v1)], [], (n, c))
  exact wX12_isMinute_0 C hRm hd hn hk hw hf
def bX12_isRule_0 (N : Nat)  (v0 : Nat) (v1 : Int32) (c : mm_C) : mR Int32 :=
  Option.bind (gR c v0 12 3) fun x1 => Option.bind (aI c x1 (4 : Int32)) fun x2 => cS (fX12_isIn N v1.toInt64 (-1 : Int64) ((x2 - (1 : Int32)).toInt64) c) fun r3 c4 => rZ r3 c4
set_option maxRecDepth 100000 in
theorem wX12_isRule_0 {Z : mm_Z} {X : mm_T} {k w mc ms d n N : Nat} {Q : mm_O → mm_H → Prop} (C : mm_Ok Z qX12_isRule X) (hRm : mt_R X = mm_rm d mc ms) (hd : 2 ≤ d) (hn : n + 1 < 1000000) (hk : k + 1 ≤ mc) (hw : w + 6 ≤ ms) {v0 : Nat} {v1 : Int32} {c : mm_C} (hf : hO 0 ovI n (bX12_isRule_0 N  v0 v1 c) Q) : mG Z qX12_isRule X k w mc ms Q (0, [(0, .ref v0), (1, .int v1)], [], (n, c)) := by
  unfold bX12_isRule_0 at hf
  refine mg_iload_n C rfl rfl ?_
  refine mg_i2l C rfl ?_
  refine mg_ldc2_w C rfl rfl ?_
  refine mg_aload_n C rfl rfl ?_
  refine mh_gR C rfl rfl rfl (by decide) hf (fun x1 hf => ?_)
  refine mg_iconst (v := 4) C rfl (by decide) ?_
  refine mh_aI C rfl hf (fun x2 hf => ?_)
  refine mg_iconst (v := 1) C rfl (by decide) ?_
  refine mg_isub C rfl ?_
  refine mg_i2l C rfl ?_
  refine mh_cSI (M' := qX12_isIn) C rfl rfl aX12_isIn tX12_isIn hRm (by omega) (by decide) (by omega) (by omega) rfl rfl (Nat.le_of_ble_eq_true rfl) rfl hf (fun hs => wX12_isIn (by omega) (by omega) hs) (fun r3 c4 hf => ?_)
  exact mh_zreturn C rfl (by omega) (by omega) rfl hf
def fX12_isRule (N : Nat) (v0 : Nat) (v1 : Int32) (c : mm_C) : mR Int32 := bX12_isRule_0 N v0 v1 c
set_option maxRecDepth 100000 in
theorem wX12_isRule {Z : mm_Z} {d n N : Nat} (hd : 2 ≤ d) (hn : n + 1 < 1000000) {v0 : Nat} {v1 : Int32} {c : mm_C} (hs : (fX12_isRule N v0 v1 c).isSome = true) : mC Z qX12_isRule d 1 6 [.ref v0, .int v1] (n, c) (mP 0 ovI n (fX12_isRule N v0 v1 c)) := by
  refine mC_of gX12_isRule (by decide +kernel) (Nat.le_of_ble_eq_true rfl) fun X C hRm => ?_
  have hf := hO_mP 0 ovI n hs
  have hk : 0 + 1 ≤ 1 := Nat.le_of_ble_eq_true rfl
  have hw : 0 + 6 ≤ 6 := Nat.le_of_ble_eq_true rfl
  show mG _ _ _ _ _ _ _ _ (0, [(0, .ref v0), (1, .int v1)], [], (n, c))
  exact wX12_isRule_0 C hRm hd hn hk hw hf
def bX12_feed_120 (N : Nat)  (v0 : Nat) (c : mm_C) : mR Int32 :=
  Option.bind (gI c v0 12 16) fun x1 => some (.inl x1, c)
set_option maxRecDepth 100000 in
theorem wX12_feed_120 {Z : mm_Z} {X : mm_T} {k w mc ms d n N : Nat} {Q : mm_O → mm_H → Prop} (C : mm_Ok Z qX12_feed X) (hRm : mt_R X = mm_rm d mc ms) (hd : 1 ≤ d) (hn : n + 1 < 1000000) (hk : k + 1 ≤ mc) (hw : w + 6 ≤ ms) {v0 : Nat} {c : mm_C} (hf : hO 0 ovI n (bX12_feed_120 N  v0 c) Q) : mG Z qX12_feed X k w mc ms Q (120, [(0, .ref v0)], [], (n, c)) := by
  unfold bX12_feed_120 at hf
  refine mg_aload_n C rfl rfl ?_
  refine mh_gI C rfl rfl rfl (by decide) hf (fun x1 hf => ?_)
  exact mh_ireturn C rfl (by omega) (by omega) rfl hf
def bX12_feed_76 (N : Nat)  (k23 : Nat → Int32 → Int32 → Int32 → Int32 → Int32 → Int32 → mm_C → mR Int32) (v0 : Nat) (v1 : Int32) (v2 : Int32) (v3 : Int32) (v4 : Int32) (v5 : Int32) (v6 : Int32) (s0 : Int32) (c : mm_C) : mR Int32 :=
  Option.bind (gR c v0 12 15) fun x1 => Option.bind (gI c v0 12 16) fun x2 => Option.bind (rmI v6 (4 : Int32)) fun x3 => Option.bind (tI c x1 x2 ((s0 >>> (((24 : Int32) - ((8 : Int32) * x3)) &&& 31)) &&& (255 : Int32))) fun c4 => Option.bind (gI c4 v0 12 16) fun x5 => Option.bind (pI c4 v0 12 16 (x5 + (1 : Int32))) fun c6 => k23 v0 v1 v2 v3 v4 v5 (v6 + 1) c6
set_option maxRecDepth 100000 in
theorem wX12_feed_76 {Z : mm_Z} {X : mm_T} {k w mc ms d n N : Nat} {Q : mm_O → mm_H → Prop} (C : mm_Ok Z qX12_feed X) (hRm : mt_R X = mm_rm d mc ms) (hd : 1 ≤ d) (hn : n + 1 < 1000000) (hk : k + 1 ≤ mc) (hw : w + 6 ≤ ms) {k23 : Nat → Int32 → Int32 → Int32 → Int32 → Int32 → Int32 → mm_C → mR Int32} (hk23 : ∀ (v0 : Nat) (v1 : Int32) (v2 : Int32) (v3 : Int32) (v4 : Int32) (v5 : Int32) (v6 : Int32) (c : mm_C), hO 0 ovI n (k23 v0 v1 v2 v3 v4 v5 v6 c) Q → mG Z qX12_feed X k w mc ms Q (23, [(0, .ref v0), (1, .int v1), (2, .int v2), (3, .int v3), (4, .int v4), (5, .int v5), (6, .int v6)], [], (n, c))) {v0 : Nat} {v1 : Int32} {v2 : Int32} {v3 : Int32} {v4 : Int32} {v5 : Int32} {v6 : Int32} {s0 : Int32} {c : mm_C} (hf : hO 0 ovI n (bX12_feed_76 N  k23 v0 v1 v2 v3 v4 v5 v6 s0 c) Q) : mG Z qX12_feed X k w mc ms Q (76, [(0, .ref v0), (1, .int v1), (2, .int v2), (3, .int v3), (4, .int v4), (5, .int v5), (6, .int v6)], [.int s0], (n, c)) := by
  unfold bX12_feed_76 at hf
  refine mg_istore (lv' := [(0, .ref v0), (1, .int v1), (2, .int v2), (3, .int v3), (4, .int v4), (5, .int v5), (6, .int v6), (7, .int s0)]) C rfl (Nat.le_of_ble_eq_true rfl) rfl ?_
  refine mg_aload_n C rfl rfl ?_
  refine mh_gR C rfl rfl rfl (by decide) hf (fun x1 hf => ?_)
  refine mg_aload_n C rfl rfl ?_
  refine mh_gI C rfl rfl rfl (by decide) hf (fun x2 hf => ?_)
  refine mg_iload C rfl rfl ?_
  refine mg_bipush (v := 24) C rfl (by decide) ?_
  refine mg_bipush (v := 8) C rfl (by decide) ?_
  refine mg_iload C rfl rfl ?_
  refine mg_iconst (v := 4) C rfl (by decide) ?_
  refine mh_irem C rfl hf (fun x3 hf => ?_)
  refine mg_imul C rfl ?_
  refine mg_isub C rfl ?_
  refine mg_ishr C rfl ?_
  refine mg_sipush (v := 255) C rfl (by decide) ?_
  refine mg_iand C rfl ?_
  refine mh_tI C rfl hf (fun c4 hf => ?_)
  refine mg_aload_n C rfl rfl ?_
  refine mg_dup C rfl rfl ?_
  refine mh_gI C rfl rfl rfl (by decide) hf (fun x5 hf => ?_)
  refine mg_iconst (v := 1) C rfl (by decide) ?_
  refine mg_iadd C rfl ?_
  refine mh_pI C rfl rfl rfl (by decide) rfl rfl rfl hf (fun c6 hf => ?_)
  refine mg_iinc (lv' := [(0, .ref v0), (1, .int v1), (2, .int v2), (3, .int v3), (4, .int v4), (5, .int v5), (6, .int (v6 + 1)), (7, .int s0)]) C rfl (Nat.le_of_ble_eq_true rfl) rfl (show _ + Int32.ofInt 1 = _ + 1 by congr 1) rfl ?_
  refine mg_goto C rfl ?_
  refine mg_sub (lv' := [(0, .ref v0), (1, .int v1), (2, .int v2), (3, .int v3), (4, .int v4), (5, .int v5), (6, .int (v6 + 1))]) (by simp) ?_
  exact hk23 _ _ _ _ _ _ _ _ hf
def bX12_feed_23 (N : Nat)  (k23 : Nat → Int32 → Int32 → Int32 → Int32 → Int32 → Int32 → mm_C → mR Int32) (v0 : Nat) (v1 : Int32) (v2 : Int32) (v3 : Int32) (v4 : Int32) (v5 : Int32) (v6 : Int32) (c : mm_C) : mR Int32 :=
  if (20 : Int32) ≤ v6 then (bX12_feed_120 N  v0 c) else (if (4 : Int32) ≤ v6 then (if (8 : Int32) ≤ v6 then (if (12 : Int32) ≤ v6 then (if (16 : Int32) ≤ v6 then (bX12_feed_76 N  k23 v0 v1 v2 v3 v4 v5 v6 v5 c) else (bX12_feed_76 N  k23 v0 v1 v2 v3 v4 v5 v6 v4 c)) else (bX12_feed_76 N  k23 v0 v1 v2 v3 v4 v5 v6 v3 c)) else (bX12_feed_76 N  k23 v0 v1 v2 v3 v4 v5 v6 v2 c)) else (bX12_feed_76 N  k23 v0 v1 v2 v3 v4 v5 v6 v1 c))
set_option maxRecDepth 100000 in
theorem wX12_feed_23 {Z : mm_Z} {X : mm_T} {k w mc ms d n N : Nat} {Q : mm_O → mm_H → Prop} (C : mm_Ok Z qX12_feed X) (hRm : mt_R X = mm_rm d mc ms) (hd : 1 ≤ d) (hn : n + 1 < 1000000) (hk : k + 1 ≤ mc) (hw : w + 6 ≤ ms) {k23 : Nat → Int32 → Int32 → Int32 → Int32 → Int32 → Int32 → mm_C → mR Int32} (hk23 : ∀ (v0 : Nat) (v1 : Int32) (v2 : Int32) (v3 : Int32) (v4 : Int32) (v5 : Int32) (v6 : Int32) (c : mm_C), hO 0 ovI n (k23 v0 v1 v2 v3 v4 v5 v6 c) Q → mG Z qX12_feed X k w mc ms Q (23, [(0, .ref v0), (1, .int v1), (2, .int v2), (3, .int v3), (4, .int v4), (5, .int v5), (6, .int v6)], [], (n, c))) {v0 : Nat} {v1 : Int32} {v2 : Int32} {v3 : Int32} {v4 : Int32} {v5 : Int32} {v6 : Int32} {c : mm_C} (hf : hO 0 ovI n (bX12_feed_23 N  k23 v0 v1 v2 v3 v4 v5 v6 c) Q) : mG Z qX12_feed X k w mc ms Q (23, [(0, .ref v0), (1, .int v1), (2, .int v2), (3, .int v3), (4, .int v4), (5, .int v5), (6, .int v6)], [], (n, c)) := by
  unfold bX12_feed_23 at hf
  refine mg_iload C rfl rfl ?_
  refine mg_bipush (v := 20) C rfl (by decide) ?_
  refine mh_icmp_ge C rfl hf (fun e_27 hf => ?_) (fun e_27 hf => ?_)
  · refine mg_sub (lv' := [(0, .ref v0)]) (by simp) ?_
    exact wX12_feed_120 C hRm hd hn hk hw hf
  · refine mg_iload C rfl rfl ?_
    refine mg_iconst (v := 4) C rfl (by decide) ?_
    refine mh_icmp_ge C rfl hf (fun e_33 hf => ?_) (fun e_33 hf => ?_)
    · refine mg_iload C rfl rfl ?_
      refine mg_bipush (v := 8) C rfl (by decide) ?_
      refine mh_icmp_ge C rfl hf (fun e_44 hf => ?_) (fun e_44 hf => ?_)
      · refine mg_iload C rfl rfl ?_
        refine mg_bipush (v := 12) C rfl (by decide) ?_
        refine mh_icmp_ge C rfl hf (fun e_55 hf => ?_) (fun e_55 hf => ?_)
        · refine mg_iload C rfl rfl ?_
          refine mg_bipush (v := 16) C rfl (by decide) ?_
          refine mh_icmp_ge C rfl hf (fun e_66 hf => ?_) (fun e_66 hf => ?_)
          · refine mg_iload C rfl rfl ?_
            exact wX12_feed_76 C hRm hd hn hk hw hk23 hf
          · refine mg_iload C rfl rfl ?_
            refine mg_goto C rfl ?_
            exact wX12_feed_76 C hRm hd hn hk hw hk23 hf
        · refine mg_iload_n C rfl rfl ?_
          refine mg_goto C rfl ?_
          exact wX12_feed_76 C hRm hd hn hk hw hk23 hf
      · refine mg_iload_n C rfl rfl ?_
        refine mg_goto C rfl ?_
        exact wX12_feed_76 C hRm hd hn hk hw hk23 hf
    · refine mg_iload_n C rfl rfl ?_
      refine mg_goto C rfl ?_
      exact wX12_feed_76 C hRm hd hn hk hw hk23 hf
def lX12_feed_23 (N : Nat)  : Nat → Nat → Int32 → Int32 → Int32 → Int32 → Int32 → Int32 → mm_C → mR Int32
  | 0, _, _, _, _, _, _, _, _ => none
  | m + 1, v0, v1, v2, v3, v4, v5, v6, c => bX12_feed_23 N  (lX12_feed_23 N  m) v0 v1 v2 v3 v4 v5 v6 c
theorem WX12_feed_23 {Z : mm_Z} {X : mm_T} {k w mc ms d n N : Nat} {Q : mm_O → mm_H → Prop} (C : mm_Ok Z qX12_feed X) (hRm : mt_R X = mm_rm d mc ms) (hd : 1 ≤ d) (hn : n + 1 < 1000000) (hk : k + 1 ≤ mc) (hw : w + 6 ≤ ms) : ∀ (m : Nat) {v0 : Nat} {v1 : Int32} {v2 : Int32} {v3 : Int32} {v4 : Int32} {v5 : Int32} {v6 : Int32} {c : mm_C} (hf : hO 0 ovI n (lX12_feed_23 N  m v0 v1 v2 v3 v4 v5 v6 c) Q), mG Z qX12_feed X k w mc ms Q (23, [(0, .ref v0), (1, .int v1), (2, .int v2), (3, .int v3), (4, .int v4), (5, .int v5), (6, .int v6)], [], (n, c)) := by
  intro m
  induction m with
  | zero => intro v0 v1 v2 v3 v4 v5 v6 c hf; exact absurd hf hO_none
  | succ m ih => intro v0 v1 v2 v3 v4 v5 v6 c hf; exact wX12_feed_23 C hRm hd hn hk hw (fun v0 v1 v2 v3 v4 v5 v6 c hf => ih hf) hf
def bX12_feed_0 (N : Nat)  (v0 : Nat) (v1 : Int32) (v2 : Int32) (v3 : Int32) (v4 : Int32) (v5 : Int32) (c : mm_C) : mR Int32 :=
  Option.bind (pI c v0 12 2 (0 : Int32)) fun c1 => Option.bind (gI c1 v0 12 16) fun x2 => if (x2 + (20 : Int32)) ≤ (700 : Int32) then (lX12_feed_23 N  N v0 v1 v2 v3 v4 v5 (0 : Int32) c1) else (some (.inl (-1 : Int32), c1))
set_option maxRecDepth 100000 in
theorem wX12_feed_0 {Z : mm_Z} {X : mm_T} {k w mc ms d n N : Nat} {Q : mm_O → mm_H → Prop} (C : mm_Ok Z qX12_feed X) (hRm : mt_R X = mm_rm d mc ms) (hd : 1 ≤ d) (hn : n + 1 < 1000000) (hk : k + 1 ≤ mc) (hw : w + 6 ≤ ms) {v0 : Nat} {v1 : Int32} {v2 : Int32} {v3 : Int32} {v4 : Int32} {v5 : Int32} {c : mm_C} (hf : hO 0 ovI n (bX12_feed_0 N  v0 v1 v2 v3 v4 v5 c) Q) : mG Z qX12_feed X k w mc ms Q (0, [(0, .ref v0), (1, .int v1), (2, .int v2), (3, .int v3), (4, .int v4), (5, .int v5)], [], (n, c)) := by
  unfold bX12_feed_0 at hf
  refine mg_aload_n C rfl rfl ?_
  refine mg_iconst (v := 0) C rfl (by decide) ?_
  refine mh_pI C rfl rfl rfl (by decide) rfl rfl rfl hf (fun c1 hf => ?_)
  refine mg_aload_n C rfl rfl ?_
  refine mh_gI C rfl rfl rfl (by decide) hf (fun x2 hf => ?_)
  refine mg_bipush (v := 20) C rfl (by decide) ?_
  refine mg_iadd C rfl ?_
  refine mg_sipush (v := 700) C rfl (by decide) ?_
  refine mh_icmp_le C rfl hf (fun e_15 hf => ?_) (fun e_15 hf => ?_)
  · refine mg_iconst (v := 0) C rfl (by decide) ?_
    refine mg_istore (lv' := [(0, .ref v0), (1, .int v1), (2, .int v2), (3, .int v3), (4, .int v4), (5, .int v5), (6, .int (0 : Int32))]) C rfl (Nat.le_of_ble_eq_true rfl) rfl ?_
    exact WX12_feed_23 C hRm hd hn hk hw N hf
  · refine mg_iconst (v := (-1)) C rfl (by decide) ?_
    exact mh_ireturn C rfl (by omega) (by omega) rfl hf
def fX12_feed (N : Nat) (v0 : Nat) (v1 : Int32) (v2 : Int32) (v3 : Int32) (v4 : Int32) (v5 : Int32) (c : mm_C) : mR Int32 := bX12_feed_0 N v0 v1 v2 v3 v4 v5 c
set_option maxRecDepth 100000 in
theorem wX12_feed {Z : mm_Z} {d n N : Nat} (hd : 1 ≤ d) (hn : n + 1 < 1000000) {v0 : Nat} {v1 : Int32} {v2 : Int32} {v3 : Int32} {v4 : Int32} {v5 : Int32} {c : mm_C} (hs : (fX12_feed N v0 v1 v2 v3 v4 v5 c).isSome = true) : mC Z qX12_feed d 1 6 [.ref v0, .int v1, .int v2, .int v3, .int v4, .int v5] (n, c) (mP 0 ovI n (fX12_feed N v0 v1 v2 v3 v4 v5 c)) := by
  refine mC_of gX12_feed (by decide +kernel) (Nat.le_of_ble_eq_true rfl) fun X C hRm => ?_
  have hf := hO_mP 0 ovI n hs
  have hk : 0 + 1 ≤ 1 := Nat.le_of_ble_eq_true rfl
  have hw : 0 + 6 ≤ 6 := Nat.le_of_ble_eq_true rfl
  show mG _ _ _ _ _ _ _ _ (0, [(0, .ref v0), (1, .int v1), (2, .int v2), (3, .int v3), (4, .int v4), (5, .int v5)], [], (n, c))
  exact wX12_feed_0 C hRm hd hn hk hw hf
def bX12_byteAt_0 (N : Nat)  (v0 : Nat) (v1 : Int32) (c : mm_C) : mR Int32 :=
  Option.bind (gI c v0 12 18) fun x1 => if x1 ≤ v1 then (some (.inl (-1 : Int32), c)) else (Option.bind (gR c v0 12 15) fun x2 => Option.bind (aI c x2 v1) fun x3 => some (.inl x3, c))
set_option maxRecDepth 100000 in
theorem wX12_byteAt_0 {Z : mm_Z} {X : mm_T} {k w mc ms d n N : Nat} {Q : mm_O → mm_H → Prop} (C : mm_Ok Z qX12_byteAt X) (hRm : mt_R X = mm_rm d mc ms) (hd : 1 ≤ d) (hn : n + 1 < 1000000) (hk : k + 1 ≤ mc) (hw : w + 6 ≤ ms) {v0 : Nat} {v1 : Int32} {c : mm_C} (hf : hO 0 ovI n (bX12_byteAt_0 N  v0 v1 c) Q) : mG Z qX12_byteAt X k w mc ms Q (0, [(0, .ref v0), (1, .int v1)], [], (n, c)) := by
  unfold bX12_byteAt_0 at hf
  refine mg_iload_n C rfl rfl ?_
  refine mg_aload_n C rfl rfl ?_
  refine mh_gI C rfl rfl rfl (by decide) hf (fun x1 hf => ?_)
  refine mh_icmp_ge C rfl hf (fun e_5 hf => ?_) (fun e_5 hf => ?_)
  · refine mg_iconst (v := (-1)) C rfl (by decide) ?_
    exact mh_ireturn C rfl (by omega) (by omega) rfl hf
  · refine mg_aload_n C rfl rfl ?_
    refine mh_gR C rfl rfl rfl (by decide) hf (fun x2 hf => ?_)
    refine mg_iload_n C rfl rfl ?_
    refine mh_aI C rfl hf (fun x3 hf => ?_)
    refine mg_goto C rfl ?_
    exact mh_ireturn C rfl (by omega) (by omega) rfl hf
def fX12_byteAt (N : Nat) (v0 : Nat) (v1 : Int32) (c : mm_C) : mR Int32 := bX12_byteAt_0 N v0 v1 c
set_option maxRecDepth 100000 in
theorem wX12_byteAt {Z : mm_Z} {d n N : Nat} (hd : 1 ≤ d) (hn : n + 1 < 1000000) {v0 : Nat} {v1 : Int32} {c : mm_C} (hs : (fX12_byteAt N v0 v1 c).isSome = true) : mC Z qX12_byteAt d 1 6 [.ref v0, .int v1] (n, c) (mP 0 ovI n (fX12_byteAt N v0 v1 c)) := by
  refine mC_of gX12_byteAt (by decide +kernel) (Nat.le_of_ble_eq_true rfl) fun X C hRm => ?_
  have hf := hO_mP 0 ovI n hs
  have hk : 0 + 1 ≤ 1 := Nat.le_of_ble_eq_true rfl
  have hw : 0 + 6 ≤ 6 := Nat.le_of_ble_eq_true rfl
  show mG _ _ _ _ _ _ _ _ (0, [(0, .ref v0), (1, .int v1)], [], (n, c))
  exact wX12_byteAt_0 C hRm hd hn hk hw hf
def bX12_isLetter_0 (N : Nat)  (v0 : Int32) (c : mm_C) : mR Int32 :=
  if v0 < (97 : Int32) then (rZ (0 : Int32) c) else (if (122 : Int32) < v0 then (rZ (0 : Int32) c) else (rZ (1 : Int32) c))
set_option maxRecDepth 100000 in
theorem wX12_isLetter_0 {Z : mm_Z} {X : mm_T} {k w mc ms d n N : Nat} {Q : mm_O → mm_H → Prop} (C : mm_Ok Z qX12_isLetter X) (hRm : mt_R X = mm_rm d mc ms) (hd : 1 ≤ d) (hn : n + 1 < 1000000) (hk : k + 1 ≤ mc) (hw : w + 6 ≤ ms) {v0 : Int32} {c : mm_C} (hf : hO 0 ovI n (bX12_isLetter_0 N  v0 c) Q) : mG Z qX12_isLetter X k w mc ms Q (0, [(0, .int v0)], [], (n, c)) := by
  unfold bX12_isLetter_0 at hf
  refine mg_iload_n C rfl rfl ?_
  refine mg_bipush (v := 97) C rfl (by decide) ?_
  refine mh_icmp_lt C rfl hf (fun e_3 hf => ?_) (fun e_3 hf => ?_)
  · refine mg_iconst (v := 0) C rfl (by decide) ?_
    exact mh_zreturn C rfl (by omega) (by omega) rfl hf
  · refine mg_iload_n C rfl rfl ?_
    refine mg_bipush (v := 122) C rfl (by decide) ?_
    refine mh_icmp_gt C rfl hf (fun e_9 hf => ?_) (fun e_9 hf => ?_)
    · refine mg_iconst (v := 0) C rfl (by decide) ?_
      exact mh_zreturn C rfl (by omega) (by omega) rfl hf
    · refine mg_iconst (v := 1) C rfl (by decide) ?_
      refine mg_goto C rfl ?_
      exact mh_zreturn C rfl (by omega) (by omega) rfl hf
def fX12_isLetter (N : Nat) (v0 : Int32) (c : mm_C) : mR Int32 := bX12_isLetter_0 N v0 c
set_option maxRecDepth 100000 in
theorem wX12_isLetter {Z : mm_Z} {d n N : Nat} (hd : 1 ≤ d) (hn : n + 1 < 1000000) {v0 : Int32} {c : mm_C} (hs : (fX12_isLetter N v0 c).isSome = true) : mC Z qX12_isLetter d 1 6 [.int v0] (n, c) (mP 0 ovI n (fX12_isLetter N v0 c)) := by
  refine mC_of gX12_isLetter (by decide +kernel) (Nat.le_of_ble_eq_true rfl) fun X C hRm => ?_
  have hf := hO_mP 0 ovI n hs
  have hk : 0 + 1 ≤ 1 := Nat.le_of_ble_eq_true rfl
  have hw : 0 + 6 ≤ 6 := Nat.le_of_ble_eq_true rfl
  show mG _ _ _ _ _ _ _ _ (0, [(0, .int v0)], [], (n, c))
  exact wX12_isLetter_0 C hRm hd hn hk hw hf
def bX12_isDigit_0 (N : Nat)  (v0 : Int32) (c : mm_C) : mR Int32 :=
  if v0 < (48 : Int32) then (rZ (0 : Int32) c) else (if (57 : Int32) < v0 then (rZ (0 : Int32) c) else (rZ (1 : Int32) c))
set_option maxRecDepth 100000 in
theorem wX12_isDigit_0 {Z : mm_Z} {X : mm_T} {k w mc ms d n N : Nat} {Q : mm_O → mm_H → Prop} (C : mm_Ok Z qX12_isDigit X) (hRm : mt_R X = mm_rm d mc ms) (hd : 1 ≤ d) (hn : n + 1 < 1000000) (hk : k + 1 ≤ mc) (hw : w + 6 ≤ ms) {v0 : Int32} {c : mm_C} (hf : hO 0 ovI n (bX12_isDigit_0 N  v0 c) Q) : mG Z qX12_isDigit X k w mc ms Q (0, [(0, .int v0)], [], (n, c)) := by
  unfold bX12_isDigit_0 at hf
  refine mg_iload_n C rfl rfl ?_
  refine mg_bipush (v := 48) C rfl (by decide) ?_
  refine mh_icmp_lt C rfl hf (fun e_3 hf => ?_) (fun e_3 hf => ?_)
  · refine mg_iconst (v := 0) C rfl (by decide) ?_
    exact mh_zreturn C rfl (by omega) (by omega) rfl hf
  · refine mg_iload_n C rfl rfl ?_
    refine mg_bipush (v := 57) C rfl (by decide) ?_
    refine mh_icmp_gt C rfl hf (fun e_9 hf => ?_) (fun e_9 hf => ?_)
    · refine mg_iconst (v := 0) C rfl (by decide) ?_
      exact mh_zreturn C rfl (by omega) (by omega) rfl hf
    · refine mg_iconst (v := 1) C rfl (by decide) ?_
      refine mg_goto C rfl ?_
      exact mh_zreturn C rfl (by omega) (by omega) rfl hf
def fX12_isDigit (N : Nat) (v0 : Int32) (c : mm_C) : mR Int32 := bX12_isDigit_0 N v0 c
set_option maxRecDepth 100000 in
theorem wX12_isDigit {Z : mm_Z} {d n N : Nat} (hd : 1 ≤ d) (hn : n + 1 < 1000000) {v0 : Int32} {c : mm_C} (hs : (fX12_isDigit N v0 c).isSome = true) : mC Z qX12_isDigit d 1 6 [.int v0] (n, c) (mP 0 ovI n (fX12_isDigit N v0 c)) := by
  refine mC_of gX12_isDigit (by decide +kernel) (Nat.le_of_ble_eq_true rfl) fun X C hRm => ?_
  have hf := hO_mP 0 ovI n hs
  have hk : 0 + 1 ≤ 1 := Nat.le_of_ble_eq_true rfl
  have hw : 0 + 6 ≤ 6 := Nat.le_of_ble_eq_true rfl
  show mG _ _ _ _ _ _ _ _ (0, [(0, .int v0)], [], (n, c))
  exact wX12_isDigit_0 C hRm hd hn hk hw hf
def bX12_isMark_54 (N : Nat)   (c : mm_C) : mR Int32 :=
  rZ (1 : Int32) c
set_option maxRecDepth 100000 in
theorem wX12_isMark_54 {Z : mm_Z} {X : mm_T} {k w mc ms d n N : Nat} {Q : mm_O → mm_H → Prop} (C : mm_Ok Z qX12_isMark X) (hRm : mt_R X = mm_rm d mc ms) (hd : 1 ≤ d) (hn : n + 1 < 1000000) (hk : k + 1 ≤ mc) (hw : w + 6 ≤ ms)  {c : mm_C} (hf : hO 0 ovI n (bX12_isMark_54 N   c) Q) : mG Z qX12_isMark X k w mc ms Q (54, [], [], (n, c)) := by
  unfold bX12_isMark_54 at hf
  refine mg_iconst (v := 1) C rfl (by decide) ?_
  refine mg_goto C rfl ?_
  exact mh_zreturn C rfl (by omega) (by omega) rfl hf
def bX12_isMark_0 (N : Nat)  (v0 : Int32) (c : mm_C) : mR Int32 :=
  if v0 = (59 : Int32) then (bX12_isMark_54 N  c) else (if v0 = (40 : Int32) then (bX12_isMark_54 N  c) else (if v0 = (41 : Int32) then (bX12_isMark_54 N  c) else (if v0 = (43 : Int32) then (bX12_isMark_54 N  c) else (if v0 = (45 : Int32) then (bX12_isMark_54 N  c) else (if v0 = (42 : Int32) then (bX12_isMark_54 N  c) else (if v0 = (47 : Int32) then (bX12_isMark_54 N  c) else (if v0 = (60 : Int32) then (bX12_isMark_54 N  c) else (if ¬ v0 = (61 : Int32) then (rZ (0 : Int32) c) else (bX12_isMark_54 N  c)))))))))
set_option maxRecDepth 100000 in
theorem wX12_isMark_0 {Z : mm_Z} {X : mm_T} {k w mc ms d n N : Nat} {Q : mm_O → mm_H → Prop} (C : mm_Ok Z qX12_isMark X) (hRm : mt_R X = mm_rm d mc ms) (hd : 1 ≤ d) (hn : n + 1 < 1000000) (hk : k + 1 ≤ mc) (hw : w + 6 ≤ ms) {v0 : Int32} {c : mm_C} (hf : hO 0 ovI n (bX12_isMark_0 N  v0 c) Q) : mG Z qX12_isMark X k w mc ms Q (0, [(0, .int v0)], [], (n, c)) := by
  unfold bX12_isMark_0 at hf
  refine mg_iload_n C rfl rfl ?_
  refine mg_bipush (v := 59) C rfl (by decide) ?_
  refine mh_icmp_eq C rfl hf (fun e_3 hf => ?_) (fun e_3 hf => ?_)
  · refine mg_sub (lv' := []) (by simp) ?_
    exact wX12_isMark_54 C hRm hd hn hk hw hf
  · refine mg_iload_n C rfl rfl ?_
    refine mg_bipush (v := 40) C rfl (by decide) ?_
    refine mh_icmp_eq C rfl hf (fun e_9 hf => ?_) (fun e_9 hf => ?_)
    · refine mg_sub (lv' := []) (by simp) ?_
      exact wX12_isMark_54 C hRm hd hn hk hw hf
    · refine mg_iload_n C rfl rfl ?_
      refine mg_bipush (v := 41) C rfl (by decide) ?_
      refine mh_icmp_eq C rfl hf (fun e_15 hf => ?_) (fun e_15 hf => ?_)
      · refine mg_sub (lv' := []) (by simp) ?_
        exact wX12_isMark_54 C hRm hd hn hk hw hf
      · refine mg_iload_n C rfl rfl ?_
        refine mg_bipush (v := 43) C rfl (by decide) ?_
        refine mh_icmp_eq C rfl hf (fun e_21 hf => ?_) (fun e_21 hf => ?_)
        · refine mg_sub (lv' := []) (by simp) ?_
          exact wX12_isMark_54 C hRm hd hn hk hw hf
        · refine mg_iload_n C rfl rfl ?_
          refine mg_bipush (v := 45) C rfl (by decide) ?_
          refine mh_icmp_eq C rfl hf (fun e_27 hf => ?_) (fun e_27 hf => ?_)
          · refine mg_sub (lv' := []) (by simp) ?_
            exact wX12_isMark_54 C hRm hd hn hk hw hf
          · refine mg_iload_n C rfl rfl ?_
            refine mg_bipush (v := 42) C rfl (by decide) ?_
            refine mh_icmp_eq C rfl hf (fun e_33 hf => ?_) (fun e_33 hf => ?_)
            · refine mg_sub (lv' := []) (by simp) ?_
              exact wX12_isMark_54 C hRm hd hn hk hw hf
            · refine mg_iload_n C rfl rfl ?_
              refine mg_bipush (v := 47) C rfl (by decide) ?_
              refine mh_icmp_eq C rfl hf (fun e_39 hf => ?_) (fun e_39 hf => ?_)
              · refine mg_sub (lv' := []) (by simp) ?_
                exact wX12_isMark_54 C hRm hd hn hk hw hf
              · refine mg_iload_n C rfl rfl ?_
                refine mg_bipush (v := 60) C rfl (by decide) ?_
                refine mh_icmp_eq C rfl hf (fun e_45 hf => ?_) (fun e_45 hf => ?_)
                · refine mg_sub (lv' := []) (by simp) ?_
                  exact wX12_isMark_54 C hRm hd hn hk hw hf
                · refine mg_iload_n C rfl rfl ?_
                  refine mg_bipush (v := 61) C rfl (by decide) ?_
                  refine mh_icmp_ne C rfl hf (fun e_51 hf => ?_) (fun e_51 hf => ?_)
                  · refine mg_iconst (v := 0) C rfl (by decide) ?_
                    exact mh_zreturn C rfl (by omega) (by omega) rfl hf
                  · refine mg_sub (lv' := []) (by simp) ?_
                    exact wX12_isMark_54 C hRm hd hn hk hw hf
def fX12_isMark (N : Nat) (v0 : Int32) (c : mm_C) : mR Int32 := bX12_isMark_0 N v0 c
set_option maxRecDepth 100000 in
theorem wX12_isMark {Z : mm_Z} {d n N : Nat} (hd : 1 ≤ d) (hn : n + 1 < 1000000) {v0 : Int32} {c : mm_C} (hs : (fX12_isMark N v0 c).isSome = true) : mC Z qX12_isMark d 1 6 [.int v0] (n, c) (mP 0 ovI n (fX12_isMark N v0 c)) := by
  refine mC_of gX12_isMark (by decide +kernel) (Nat.le_of_ble_eq_true rfl) fun X C hRm => ?_
  have hf := hO_mP 0 ovI n hs
  have hk : 0 + 1 ≤ 1 := Nat.le_of_ble_eq_true rfl
  have hw : 0 + 6 ≤ 6 := Nat.le_of_ble_eq_true rfl
  show mG _ _ _ _ _ _ _ _ (0, [(0, .int v0)], [], (n, c))
  exact wX12_isMark_0 C hRm hd hn hk hw hf
def bX12_stepOn_212 (N : Nat)  (v0 : Nat) (c : mm_C) : mR Unit :=
  Option.bind (gI c v0 12 17) fun x1 => Option.bind (pI c v0 12 22 x1) fun c2 => some (.inl (), c2)
set_option maxRecDepth 100000 in
theorem wX12_stepOn_212 {Z : mm_Z} {X : mm_T} {k w mc ms d n N : Nat} {Q : mm_O → mm_H → Prop} (C : mm_Ok Z qX12_stepOn X) (hRm : mt_R X = mm_rm d mc ms) (hd : 2 ≤ d) (hn : n + 1 < 1000000) (hk : k + 1 ≤ mc) (hw : w + 6 ≤ ms) {v0 : Nat} {c : mm_C} (hf : hO 0 ovU n (bX12_stepOn_212 N  v0 c) Q) : mG Z qX12_stepOn X k w mc ms Q (212, [(0, .ref v0)], [], (n, c)) := by
  unfold bX12_stepOn_212 at hf
  refine mg_aload_n C rfl rfl ?_
  refine mg_aload_n C rfl rfl ?_
  refine mh_gI C rfl rfl rfl (by decide) hf (fun x1 hf => ?_)
  refine mh_pI C rfl rfl rfl (by decide) rfl rfl rfl hf (fun c2 hf => ?_)
  exact mh_return C rfl (by omega) (by omega) rfl hf
def bX12_stepOn_209 (N : Nat)  (v0 : Nat) (s0 : Nat) (s1 : Int32) (c : mm_C) : mR Unit :=
  Option.bind (pI c s0 12 19 s1) fun c1 => bX12_stepOn_212 N  v0 c1
set_option maxRecDepth 100000 in
theorem wX12_stepOn_209 {Z : mm_Z} {X : mm_T} {k w mc ms d n N : Nat} {Q : mm_O → mm_H → Prop} (C : mm_Ok Z qX12_stepOn X) (hRm : mt_R X = mm_rm d mc ms) (hd : 2 ≤ d) (hn : n + 1 < 1000000) (hk : k + 1 ≤ mc) (hw : w + 6 ≤ ms) {v0 : Nat} {s0 : Nat} {s1 : Int32} {c : mm_C} (hf : hO 0 ovU n (bX12_stepOn_209 N  v0 s0 s1 c) Q) : mG Z qX12_stepOn X k w mc ms Q (209, [(0, .ref v0)], [.int s1, .ref s0], (n, c)) := by
  unfold bX12_stepOn_209 at hf
  refine mh_pI C rfl rfl rfl (by decide) rfl rfl rfl hf (fun c1 hf => ?_)
  exact wX12_stepOn_212 C hRm hd hn hk hw hf
def bX12_stepOn_178 (N : Nat)  (v0 : Nat) (c : mm_C) : mR Unit :=
  Option.bind (pI c v0 12 19 (2 : Int32)) fun c1 => bX12_stepOn_212 N  v0 c1
set_option maxRecDepth 100000 in
theorem wX12_stepOn_178 {Z : mm_Z} {X : mm_T} {k w mc ms d n N : Nat} {Q : mm_O → mm_H → Prop} (C : mm_Ok Z qX12_stepOn X) (hRm : mt_R X = mm_rm d mc ms) (hd : 2 ≤ d) (hn : n + 1 < 1000000) (hk : k + 1 ≤ mc) (hw : w + 6 ≤ ms) {v0 : Nat} {c : mm_C} (hf : hO 0 ovU n (bX12_stepOn_178 N  v0 c) Q) : mG Z qX12_stepOn X k w mc ms Q (178, [(0, .ref v0)], [], (n, c)) := by
  unfold bX12_stepOn_178 at hf
  refine mg_aload_n C rfl rfl ?_
  refine mg_iconst (v := 2) C rfl (by decide) ?_
  refine mh_pI C rfl rfl rfl (by decide) rfl rfl rfl hf (fun c1 hf => ?_)
  refine mg_goto C rfl ?_
  exact wX12_stepOn_212 C hRm hd hn hk hw hf
def bX12_stepOn_123 (N : Nat)  (k123 : Nat → mm_C → mR Unit) (v0 : Nat) (c : mm_C) : mR Unit :=
  Option.bind (gI c v0 12 17) fun x1 => cV 12 v0 c (fX12_byteAt N v0 x1 c) fun r2 c3 => cS (fX12_isDigit N r2 c3) fun r4 c5 => if r4 = 0 then (bX12_stepOn_178 N  v0 c5) else (Option.bind (gI c5 v0 12 20) fun x6 => Option.bind (gI c5 v0 12 17) fun x7 => cV 12 v0 c5 (fX12_byteAt N v0 x7 c5) fun r8 c9 => Option.bind (pI c9 v0 12 20 (mnI (100000 : Int32) ((((10 : Int32) * x6) + r8) - (48 : Int32)))) fun c10 => Option.bind (gI c10 v0 12 17) fun x11 => Option.bind (pI c10 v0 12 17 (x11 + (1 : Int32))) fun c12 => k123 v0 c12)
set_option maxRecDepth 100000 in
theorem wX12_stepOn_123 {Z : mm_Z} {X : mm_T} {k w mc ms d n N : Nat} {Q : mm_O → mm_H → Prop} (C : mm_Ok Z qX12_stepOn X) (hRm : mt_R X = mm_rm d mc ms) (hd : 2 ≤ d) (hn : n + 1 < 1000000) (hk : k + 1 ≤ mc) (hw : w + 6 ≤ ms) {k123 : Nat → mm_C → mR Unit} (hk123 : ∀ (v0 : Nat) (c : mm_C), hO 0 ovU n (k123 v0 c) Q → mG Z qX12_stepOn X k w mc ms Q (123, [(0, .ref v0)], [], (n, c))) {v0 : Nat} {c : mm_C} (hf : hO 0 ovU n (bX12_stepOn_123 N  k123 v0 c) Q) : mG Z qX12_stepOn X k w mc ms Q (123, [(0, .ref v0)], [], (n, c)) := by
  unfold bX12_stepOn_123 at hf
  refine mg_aload_n C rfl rfl ?_
  refine mg_aload_n C rfl rfl ?_
  refine mh_gI C rfl rfl rfl (by decide) hf (fun x1 hf => ?_)
  refine mh_cVI (M' := qX12_byteAt) C rfl rfl aX12_byteAt iX12_byteAt sX12_byteAt hRm (by omega) (by decide) (by omega) (by omega) rfl rfl rfl (Nat.le_of_ble_eq_true rfl) rfl hf (fun hs => wX12_byteAt (by omega) (by omega) hs) (fun r2 c3 hf => ?_)
  refine mh_cSI (M' := qX12_isDigit) C rfl rfl aX12_isDigit tX12_isDigit hRm (by omega) (by decide) (by omega) (by omega) rfl rfl (Nat.le_of_ble_eq_true rfl) rfl hf (fun hs => wX12_isDigit (by omega) (by omega) hs) (fun r4 c5 hf => ?_)
  refine mh_if_eq C rfl hf (fun e_134 hf => ?_) (fun e_134 hf => ?_)
  · exact wX12_stepOn_178 C hRm hd hn hk hw hf
  · refine mg_aload_n C rfl rfl ?_
    refine mg_ldc C rfl rfl ?_
    refine mg_bipush (v := 10) C rfl (by decide) ?_
    refine mg_aload_n C rfl rfl ?_
    refine mh_gI C rfl rfl rfl (by decide) hf (fun x6 hf => ?_)
    refine mg_imul C rfl ?_
    refine mg_aload_n C rfl rfl ?_
    refine mg_aload_n C rfl rfl ?_
    refine mh_gI C rfl rfl rfl (by decide) hf (fun x7 hf => ?_)
    refine mh_cVI (M' := qX12_byteAt) C rfl rfl aX12_byteAt iX12_byteAt sX12_byteAt hRm (by omega) (by decide) (by omega) (by omega) rfl rfl rfl (Nat.le_of_ble_eq_true rfl) rfl hf (fun hs => wX12_byteAt (by omega) (by omega) hs) (fun r8 c9 hf => ?_)
    refine mg_iadd C rfl ?_
    refine mg_bipush (v := 48) C rfl (by decide) ?_
    refine mg_isub C rfl ?_
    refine mh_mnI C rfl rfl hRm (by omega) (Nat.le_of_ble_eq_true rfl) ?_
    refine mh_pI C rfl rfl rfl (by decide) rfl rfl rfl hf (fun c10 hf => ?_)
    refine mg_aload_n C rfl rfl ?_
    refine mg_dup C rfl rfl ?_
    refine mh_gI C rfl rfl rfl (by decide) hf (fun x11 hf => ?_)
    refine mg_iconst (v := 1) C rfl (by decide) ?_
    refine mg_iadd C rfl ?_
    refine mh_pI C rfl rfl rfl (by decide) rfl rfl rfl hf (fun c12 hf => ?_)
    refine mg_goto C rfl ?_
    exact hk123 _ _ hf
def lX12_stepOn_123 (N : Nat)  : Nat → Nat → mm_C → mR Unit
  | 0, _, _ => none
  | m + 1, v0, c => bX12_stepOn_123 N  (lX12_stepOn_123 N  m) v0 c
theorem WX12_stepOn_123 {Z : mm_Z} {X : mm_T} {k w mc ms d n N : Nat} {Q : mm_O → mm_H → Prop} (C : mm_Ok Z qX12_stepOn X) (hRm : mt_R X = mm_rm d mc ms) (hd : 2 ≤ d) (hn : n + 1 < 1000000) (hk : k + 1 ≤ mc) (hw : w + 6 ≤ ms) : ∀ (m : Nat) {v0 : Nat} {c : mm_C} (hf : hO 0 ovU n (lX12_stepOn_123 N  m v0 c) Q), mG Z qX12_stepOn X k w mc ms Q (123, [(0, .ref v0)], [], (n, c)) := by
  intro m
  induction m with
  | zero => intro v0 c hf; exact absurd hf hO_none
  | succ m ih => intro v0 c hf; exact wX12_stepOn_123 C hRm hd hn hk hw (fun v0 c hf => ih hf) hf
def bX12_stepOn_103 (N : Nat)  (v0 : Nat) (c : mm_C) : mR Unit :=
  Option.bind (pI c v0 12 19 (1 : Int32)) fun c1 => bX12_stepOn_212 N  v0 c1
set_option maxRecDepth 100000 in
theorem wX12_stepOn_103 {Z : mm_Z} {X : mm_T} {k w mc ms d n N : Nat} {Q : mm_O → mm_H → Prop} (C : mm_Ok Z qX12_stepOn X) (hRm : mt_R X = mm_rm d mc ms) (hd : 2 ≤ d) (hn : n + 1 < 1000000) (hk : k + 1 ≤ mc) (hw : w + 6 ≤ ms) {v0 : Nat} {c : mm_C} (hf : hO 0 ovU n (bX12_stepOn_103 N  v0 c) Q) : mG Z qX12_stepOn X k w mc ms Q (103, [(0, .ref v0)], [], (n, c)) := by
  unfold bX12_stepOn_103 at hf
  refine mg_aload_n C rfl rfl ?_
  refine mg_iconst (v := 1) C rfl (by decide) ?_
  refine mh_pI C rfl rfl rfl (by decide) rfl rfl rfl hf (fun c1 hf => ?_)
  refine mg_goto C rfl ?_
  exact wX12_stepOn_212 C hRm hd hn hk hw hf
def bX12_stepOn_76 (N : Nat)  (k76 : Nat → mm_C → mR Unit) (v0 : Nat) (c : mm_C) : mR Unit :=
  Option.bind (gI c v0 12 17) fun x1 => cV 12 v0 c (fX12_byteAt N v0 x1 c) fun r2 c3 => cS (fX12_isLetter N r2 c3) fun r4 c5 => if r4 = 0 then (bX12_stepOn_103 N  v0 c5) else (Option.bind (gI c5 v0 12 17) fun x6 => Option.bind (pI c5 v0 12 17 (x6 + (1 : Int32))) fun c7 => k76 v0 c7)
set_option maxRecDepth 100000 in
theorem wX12_stepOn_76 {Z : mm_Z} {X : mm_T} {k w mc ms d n N : Nat} {Q : mm_O → mm_H → Prop} (C : mm_Ok Z qX12_stepOn X) (hRm : mt_R X = mm_rm d mc ms) (hd : 2 ≤ d) (hn : n + 1 < 1000000) (hk : k + 1 ≤ mc) (hw : w + 6 ≤ ms) {k76 : Nat → mm_C → mR Unit} (hk76 : ∀ (v0 : Nat) (c : mm_C), hO 0 ovU n (k76 v0 c) Q → mG Z qX12_stepOn X k w mc ms Q (76, [(0, .ref v0)], [], (n, c))) {v0 : Nat} {c : mm_C} (hf : hO 0 ovU n (bX12_stepOn_76 N  k76 v0 c) Q) : mG Z qX12_stepOn X k w mc ms Q (76, [(0, .ref v0)], [], (n, c)) := by
  unfold bX12_stepOn_76 at hf
  refine mg_aload_n C rfl rfl ?_
  refine mg_aload_n C rfl rfl ?_
  refine mh_gI C rfl rfl rfl (by decide) hf (fun x1 hf => ?_)
  refine mh_cVI (M' := qX12_byteAt) C rfl rfl aX12_byteAt iX12_byteAt sX12_byteAt hRm (by omega) (by decide) (by omega) (by omega) rfl rfl rfl (Nat.le_of_ble_eq_true rfl) rfl hf (fun hs => wX12_byteAt (by omega) (by omega) hs) (fun r2 c3 hf => ?_)
  refine mh_cSI (M' := qX12_isLetter) C rfl rfl aX12_isLetter tX12_isLetter hRm (by omega) (by decide) (by omega) (by omega) rfl rfl (Nat.le_of_ble_eq_true rfl) rfl hf (fun hs => wX12_isLetter (by omega) (by omega) hs) (fun r4 c5 hf => ?_)
  refine mh_if_eq C rfl hf (fun e_87 hf => ?_) (fun e_87 hf => ?_)
  · exact wX12_stepOn_103 C hRm hd hn hk hw hf
  · refine mg_aload_n C rfl rfl ?_
    refine mg_dup C rfl rfl ?_
    refine mh_gI C rfl rfl rfl (by decide) hf (fun x6 hf => ?_)
    refine mg_iconst (v := 1) C rfl (by decide) ?_
    refine mg_iadd C rfl ?_
    refine mh_pI C rfl rfl rfl (by decide) rfl rfl rfl hf (fun c7 hf => ?_)
    refine mg_goto C rfl ?_
    exact hk76 _ _ hf
def lX12_stepOn_76 (N : Nat)  : Nat → Nat → mm_C → mR Unit
  | 0, _, _ => none
  | m + 1, v0, c => bX12_stepOn_76 N  (lX12_stepOn_76 N  m) v0 c
theorem WX12_stepOn_76 {Z : mm_Z} {X : mm_T} {k w mc ms d n N : Nat} {Q : mm_O → mm_H → Prop} (C : mm_Ok Z qX12_stepOn X) (hRm : mt_R X = mm_rm d mc ms) (hd : 2 ≤ d) (hn : n + 1 < 1000000) (hk : k + 1 ≤ mc) (hw : w + 6 ≤ ms) : ∀ (m : Nat) {v0 : Nat} {c : mm_C} (hf : hO 0 ovU n (lX12_stepOn_76 N  m v0 c) Q), mG Z qX12_stepOn X k w mc ms Q (76, [(0, .ref v0)], [], (n, c)) := by
  intro m
  induction m with
  | zero => intro v0 c hf; exact absurd hf hO_none
  | succ m ih => intro v0 c hf; exact wX12_stepOn_76 C hRm hd hn hk hw (fun v0 c hf => ih hf) hf
def bX12_stepOn_39 (N : Nat)  (v0 : Nat) (c : mm_C) : mR Unit :=
  Option.bind (gI c v0 12 17) fun x1 => Option.bind (pI c v0 12 21 x1) fun c2 => Option.bind (gI c2 v0 12 17) fun x3 => cV 12 v0 c2 (fX12_byteAt N v0 x3 c2) fun r4 c5 => if ¬ r4 = (-1 : Int32) then (cS (fX12_isLetter N r4 c5) fun r6 c7 => if r6 = 0 then (cS (fX12_isDigit N r4 c7) fun r8 c9 => if r8 = 0 then (Option.bind (gI c9 v0 12 17) fun x10 => Option.bind (pI c9 v0 12 17 (x10 + (1 : Int32))) fun c11 => cS (fX12_isMark N r4 c11) fun r12 c13 => if r12 = 0 then (bX12_stepOn_209 N  v0 v0 (4 : Int32) c13) else (bX12_stepOn_209 N  v0 v0 (3 : Int32) c13)) else (Option.bind (pI c9 v0 12 20 (0 : Int32)) fun c14 => lX12_stepOn_123 N  N v0 c14)) else (lX12_stepOn_76 N  N v0 c7)) else (Option.bind (pI c5 v0 12 19 (0 : Int32)) fun c15 => bX12_stepOn_212 N  v0 c15)
set_option maxRecDepth 100000 in
theorem wX12_stepOn_39 {Z : mm_Z} {X : mm_T} {k w mc ms d n N : Nat} {Q : mm_O → mm_H → Prop} (C : mm_Ok Z qX12_stepOn X) (hRm : mt_R X = mm_rm d mc ms) (hd : 2 ≤ d) (hn : n + 1 < 1000000) (hk : k + 1 ≤ mc) (hw : w + 6 ≤ ms) {v0 : Nat} {c : mm_C} (hf : hO 0 ovU n (bX12_stepOn_39 N  v0 c) Q) : mG Z qX12_stepOn X k w mc ms Q (39, [(0, .ref v0)], [], (n, c)) := by
  unfold bX12_stepOn_39 at hf
  refine mg_aload_n C rfl rfl ?_
  refine mg_aload_n C rfl rfl ?_
  refine mh_gI C rfl rfl rfl (by decide) hf (fun x1 hf => ?_)
  refine mh_pI C rfl rfl rfl (by decide) rfl rfl rfl hf (fun c2 hf => ?_)
  refine mg_aload_n C rfl rfl ?_
  refine mg_aload_n C rfl rfl ?_
  refine mh_gI C rfl rfl rfl (by decide) hf (fun x3 hf => ?_)
  refine mh_cVI (M' := qX12_byteAt) C rfl rfl aX12_byteAt iX12_byteAt sX12_byteAt hRm (by omega) (by decide) (by omega) (by omega) rfl rfl rfl (Nat.le_of_ble_eq_true rfl) rfl hf (fun hs => wX12_byteAt (by omega) (by omega) hs) (fun r4 c5 hf => ?_)
  refine mg_istore_n (lv' := [(0, .ref v0), (1, .int r4)]) C rfl (Nat.le_of_ble_eq_true rfl) rfl ?_
  refine mg_iload_n C rfl rfl ?_
  refine mg_iconst (v := (-1)) C rfl (by decide) ?_
  refine mh_icmp_ne C rfl hf (fun e_58 hf => ?_) (fun e_58 hf => ?_)
  · refine mg_iload_n C rfl rfl ?_
    refine mh_cSI (M' := qX12_isLetter) C rfl rfl aX12_isLetter tX12_isLetter hRm (by omega) (by decide) (by omega) (by omega) rfl rfl (Nat.le_of_ble_eq_true rfl) rfl hf (fun hs => wX12_isLetter (by omega) (by omega) hs) (fun r6 c7 hf => ?_)
    refine mh_if_eq C rfl hf (fun e_73 hf => ?_) (fun e_73 hf => ?_)
    · refine mg_iload_n C rfl rfl ?_
      refine mh_cSI (M' := qX12_isDigit) C rfl rfl aX12_isDigit tX12_isDigit hRm (by omega) (by decide) (by omega) (by omega) rfl rfl (Nat.le_of_ble_eq_true rfl) rfl hf (fun hs => wX12_isDigit (by omega) (by omega) hs) (fun r8 c9 hf => ?_)
      refine mh_if_eq C rfl hf (fun e_115 hf => ?_) (fun e_115 hf => ?_)
      · refine mg_aload_n C rfl rfl ?_
        refine mg_dup C rfl rfl ?_
        refine mh_gI C rfl rfl rfl (by decide) hf (fun x10 hf => ?_)
        refine mg_iconst (v := 1) C rfl (by decide) ?_
        refine mg_iadd C rfl ?_
        refine mh_pI C rfl rfl rfl (by decide) rfl rfl rfl hf (fun c11 hf => ?_)
        refine mg_aload_n C rfl rfl ?_
        refine mg_iload_n C rfl rfl ?_
        refine mh_cSI (M' := qX12_isMark) C rfl rfl aX12_isMark tX12_isMark hRm (by omega) (by decide) (by omega) (by omega) rfl rfl (Nat.le_of_ble_eq_true rfl) rfl hf (fun hs => wX12_isMark (by omega) (by omega) hs) (fun r12 c13 hf => ?_)
        refine mh_if_eq C rfl hf (fun e_201 hf => ?_) (fun e_201 hf => ?_)
        · refine mg_iconst (v := 4) C rfl (by decide) ?_
          refine mg_sub (lv' := [(0, .ref v0)]) (by simp) ?_
          exact wX12_stepOn_209 C hRm hd hn hk hw hf
        · refine mg_iconst (v := 3) C rfl (by decide) ?_
          refine mg_goto C rfl ?_
          refine mg_sub (lv' := [(0, .ref v0)]) (by simp) ?_
          exact wX12_stepOn_209 C hRm hd hn hk hw hf
      · refine mg_aload_n C rfl rfl ?_
        refine mg_iconst (v := 0) C rfl (by decide) ?_
        refine mh_pI C rfl rfl rfl (by decide) rfl rfl rfl hf (fun c14 hf => ?_)
        refine mg_sub (lv' := [(0, .ref v0)]) (by simp) ?_
        exact WX12_stepOn_123 C hRm hd hn hk hw N hf
    · refine mg_sub (lv' := [(0, .ref v0)]) (by simp) ?_
      exact WX12_stepOn_76 C hRm hd hn hk hw N hf
  · refine mg_aload_n C rfl rfl ?_
    refine mg_iconst (v := 0) C rfl (by decide) ?_
    refine mh_pI C rfl rfl rfl (by decide) rfl rfl rfl hf (fun c15 hf => ?_)
    refine mg_goto C rfl ?_
    refine mg_sub (lv' := [(0, .ref v0)]) (by simp) ?_
    exact wX12_stepOn_212 C hRm hd hn hk hw hf
def bX12_stepOn_26 (N : Nat)  (k0 : Nat → mm_C → mR Unit) (v0 : Nat) (c : mm_C) : mR Unit :=
  Option.bind (gI c v0 12 17) fun x1 => Option.bind (pI c v0 12 17 (x1 + (1 : Int32))) fun c2 => k0 v0 c2
set_option maxRecDepth 100000 in
theorem wX12_stepOn_26 {Z : mm_Z} {X : mm_T} {k w mc ms d n N : Nat} {Q : mm_O → mm_H → Prop} (C : mm_Ok Z qX12_stepOn X) (hRm : mt_R X = mm_rm d mc ms) (hd : 2 ≤ d) (hn : n + 1 < 1000000) (hk : k + 1 ≤ mc) (hw : w + 6 ≤ ms) {k0 : Nat → mm_C → mR Unit} (hk0 : ∀ (v0 : Nat) (c : mm_C), hO 0 ovU n (k0 v0 c) Q → mG Z qX12_stepOn X k w mc ms Q (0, [(0, .ref v0)], [], (n, c))) {v0 : Nat} {c : mm_C} (hf : hO 0 ovU n (bX12_stepOn_26 N  k0 v0 c) Q) : mG Z qX12_stepOn X k w mc ms Q (26, [(0, .ref v0)], [], (n, c)) := by
  unfold bX12_stepOn_26 at hf
  refine mg_aload_n C rfl rfl ?_
  refine mg_dup C rfl rfl ?_
  refine mh_gI C rfl rfl rfl (by decide) hf (fun x1 hf => ?_)
  refine mg_iconst (v := 1) C rfl (by decide) ?_
  refine mg_iadd C rfl ?_
  refine mh_pI C rfl rfl rfl (by decide) rfl rfl rfl hf (fun c2 hf => ?_)
  refine mg_goto C rfl ?_
  exact hk0 _ _ hf
def bX12_stepOn_0 (N : Nat)  (k0 : Nat → mm_C → mR Unit) (v0 : Nat) (c : mm_C) : mR Unit :=
  Option.bind (gI c v0 12 17) fun x1 => cV 12 v0 c (fX12_byteAt N v0 x1 c) fun r2 c3 => if r2 = (32 : Int32) then (bX12_stepOn_26 N  k0 v0 c3) else (Option.bind (gI c3 v0 12 17) fun x4 => cV 12 v0 c3 (fX12_byteAt N v0 x4 c3) fun r5 c6 => if ¬ r5 = (10 : Int32) then (bX12_stepOn_39 N  v0 c6) else (bX12_stepOn_26 N  k0 v0 c6))
set_option maxRecDepth 100000 in
theorem wX12_stepOn_0 {Z : mm_Z} {X : mm_T} {k w mc ms d n N : Nat} {Q : mm_O → mm_H → Prop} (C : mm_Ok Z qX12_stepOn X) (hRm : mt_R X = mm_rm d mc ms) (hd : 2 ≤ d) (hn : n + 1 < 1000000) (hk : k + 1 ≤ mc) (hw : w + 6 ≤ ms) {k0 : Nat → mm_C → mR Unit} (hk0 : ∀ (v0 : Nat) (c : mm_C), hO 0 ovU n (k0 v0 c) Q → mG Z qX12_stepOn X k w mc ms Q (0, [(0, .ref v0)], [], (n, c))) {v0 : Nat} {c : mm_C} (hf : hO 0 ovU n (bX12_stepOn_0 N  k0 v0 c) Q) : mG Z qX12_stepOn X k w mc ms Q (0, [(0, .ref v0)], [], (n, c)) := by
  unfold bX12_stepOn_0 at hf
  refine mg_aload_n C rfl rfl ?_
  refine mg_aload_n C rfl rfl ?_
  refine mh_gI C rfl rfl rfl (by decide) hf (fun x1 hf => ?_)
  refine mh_cVI (M' := qX12_byteAt) C rfl rfl aX12_byteAt iX12_byteAt sX12_byteAt hRm (by omega) (by decide) (by omega) (by omega) rfl rfl rfl (Nat.le_of_ble_eq_true rfl) rfl hf (fun hs => wX12_byteAt (by omega) (by omega) hs) (fun r2 c3 hf => ?_)
  refine mg_bipush (v := 32) C rfl (by decide) ?_
  refine mh_icmp_eq C rfl hf (fun e_10 hf => ?_) (fun e_10 hf => ?_)
  · exact wX12_stepOn_26 C hRm hd hn hk hw hk0 hf
  · refine mg_aload_n C rfl rfl ?_
    refine mg_aload_n C rfl rfl ?_
    refine mh_gI C rfl rfl rfl (by decide) hf (fun x4 hf => ?_)
    refine mh_cVI (M' := qX12_byteAt) C rfl rfl aX12_byteAt iX12_byteAt sX12_byteAt hRm (by omega) (by decide) (by omega) (by omega) rfl rfl rfl (Nat.le_of_ble_eq_true rfl) rfl hf (fun hs => wX12_byteAt (by omega) (by omega) hs) (fun r5 c6 hf => ?_)
    refine mg_bipush (v := 10) C rfl (by decide) ?_
    refine mh_icmp_ne C rfl hf (fun e_23 hf => ?_) (fun e_23 hf => ?_)
    · exact wX12_stepOn_39 C hRm hd hn hk hw hf
    · exact wX12_stepOn_26 C hRm hd hn hk hw hk0 hf
def lX12_stepOn_0 (N : Nat)  : Nat → Nat → mm_C → mR Unit
  | 0, _, _ => none
  | m + 1, v0, c => bX12_stepOn_0 N  (lX12_stepOn_0 N  m) v0 c
theorem WX12_stepOn_0 {Z : mm_Z} {X : mm_T} {k w mc ms d n N : Nat} {Q : mm_O → mm_H → Prop} (C : mm_Ok Z qX12_stepOn X) (hRm : mt_R X = mm_rm d mc ms) (hd : 2 ≤ d) (hn : n + 1 < 1000000) (hk : k + 1 ≤ mc) (hw : w + 6 ≤ ms) : ∀ (m : Nat) {v0 : Nat} {c : mm_C} (hf : hO 0 ovU n (lX12_stepOn_0 N  m v0 c) Q), mG Z qX12_stepOn X k w mc ms Q (0, [(0, .ref v0)], [], (n, c)) := by
  intro m
  induction m with
  | zero => intro v0 c hf; exact absurd hf hO_none
  | succ m ih => intro v0 c hf; exact wX12_stepOn_0 C hRm hd hn hk hw (fun v0 c hf => ih hf) hf
def fX12_stepOn (N : Nat) (v0 : Nat) (c : mm_C) : mR Unit := lX12_stepOn_0 N N v0 c
set_option maxRecDepth 100000 in
theorem wX12_stepOn {Z : mm_Z} {d n N : Nat} (hd : 2 ≤ d) (hn : n + 1 < 1000000) {v0 : Nat} {c : mm_C} (hs : (fX12_stepOn N v0 c).isSome = true) : mC Z qX12_stepOn d 1 6 [.ref v0] (n, c) (mP 0 ovU n (fX12_stepOn N v0 c)) := by
  refine mC_of gX12_stepOn (by decide +kernel) (Nat.le_of_ble_eq_true rfl) fun X C hRm => ?_
  have hf := hO_mP 0 ovU n hs
  have hk : 0 + 1 ≤ 1 := Nat.le_of_ble_eq_true rfl
  have hw : 0 + 6 ≤ 6 := Nat.le_of_ble_eq_true rfl
  show mG _ _ _ _ _ _ _ _ (0, [(0, .ref v0)], [], (n, c))
  exact WX12_stepOn_0 C hRm hd hn hk hw N hf
def bX12_wrong_0 (N : Nat)  (v0 : Nat) (v1 : Int32) (c : mm_C) : mR Unit :=
  Option.bind (gI c v0 12 23) fun x1 => if x1 = 0 then (Option.bind (pI c v0 12 23 v1) fun c2 => Option.bind (gI c2 v0 12 21) fun x3 => Option.bind (pI c2 v0 12 24 x3) fun c4 => some (.inl (), c4)) else (some (.inl (), c))
set_option maxRecDepth 100000 in
theorem wX12_wrong_0 {Z : mm_Z} {X : mm_T} {k w mc ms d n N : Nat} {Q : mm_O → mm_H → Prop} (C : mm_Ok Z qX12_wrong X) (hRm : mt_R X = mm_rm d mc ms) (hd : 1 ≤ d) (hn : n + 1 < 1000000) (hk : k + 1 ≤ mc) (hw : w + 6 ≤ ms) {v0 : Nat} {v1 : Int32} {c : mm_C} (hf : hO 0 ovU n (bX12_wrong_0 N  v0 v1 c) Q) : mG Z qX12_wrong X k w mc ms Q (0, [(0, .ref v0), (1, .int v1)], [], (n, c)) := by
  unfold bX12_wrong_0 at hf
  refine mg_aload_n C rfl rfl ?_
  refine mh_gI C rfl rfl rfl (by decide) hf (fun x1 hf => ?_)
  refine mh_if_eq C rfl hf (fun e_4 hf => ?_) (fun e_4 hf => ?_)
  · refine mg_aload_n C rfl rfl ?_
    refine mg_iload_n C rfl rfl ?_
    refine mh_pI C rfl rfl rfl (by decide) rfl rfl rfl hf (fun c2 hf => ?_)
    refine mg_aload_n C rfl rfl ?_
    refine mg_aload_n C rfl rfl ?_
    refine mh_gI C rfl rfl rfl (by decide) hf (fun x3 hf => ?_)
    refine mh_pI C rfl rfl rfl (by decide) rfl rfl rfl hf (fun c4 hf => ?_)
    exact mh_return C rfl (by omega) (by omega) rfl hf
  · exact mh_return C rfl (by omega) (by omega) rfl hf
def fX12_wrong (N : Nat) (v0 : Nat) (v1 : Int32) (c : mm_C) : mR Unit := bX12_wrong_0 N v0 v1 c
set_option maxRecDepth 100000 in
theorem wX12_wrong {Z : mm_Z} {d n N : Nat} (hd : 1 ≤ d) (hn : n + 1 < 1000000) {v0 : Nat} {v1 : Int32} {c : mm_C} (hs : (fX12_wrong N v0 v1 c).isSome = true) : mC Z qX12_wrong d 1 6 [.ref v0, .int v1] (n, c) (mP 0 ovU n (fX12_wrong N v0 v1 c)) := by
  refine mC_of gX12_wrong (by decide +kernel) (Nat.le_of_ble_eq_true rfl) fun X C hRm => ?_
  have hf := hO_mP 0 ovU n hs
  have hk : 0 + 1 ≤ 1 := Nat.le_of_ble_eq_true rfl
  have hw : 0 + 6 ≤ 6 := Nat.le_of_ble_eq_true rfl
  show mG _ _ _ _ _ _ _ _ (0, [(0, .ref v0), (1, .int v1)], [], (n, c))
  exact wX12_wrong_0 C hRm hd hn hk hw hf
def bX12_is_82 (N : Nat)  (v2 : Int32) (c : mm_C) : mR Int32 :=
  rZ v2 c
set_option maxRecDepth 100000 in
theorem wX12_is_82 {Z : mm_Z} {X : mm_T} {k w mc ms d n N : Nat} {Q : mm_O → mm_H → Prop} (C : mm_Ok Z qX12_is X) (hRm : mt_R X = mm_rm d mc ms) (hd : 5 ≤ d) (hn : n + 1 < 1000000) (hk : k + 1 ≤ mc) (hw : w + 6 ≤ ms) {v2 : Int32} {c : mm_C} (hf : hO 0 ovI n (bX12_is_82 N  v2 c) Q) : mG Z qX12_is X k w mc ms Q (82, [(2, .int v2)], [], (n, c)) := by
  unfold bX12_is_82 at hf
  refine mg_iload_n C rfl rfl ?_
  exact mh_zreturn C rfl (by omega) (by omega) rfl hf
def bX12_is_75 (N : Nat)  (k39 : Nat → Nat → Int32 → Int32 → mm_C → mR Int32) (v0 : Nat) (v1 : Nat) (v3 : Int32) (s0 : Int32) (c : mm_C) : mR Int32 :=
  k39 v0 v1 s0 (v3 + 1) c
set_option maxRecDepth 100000 in
theorem wX12_is_75 {Z : mm_Z} {X : mm_T} {k w mc ms d n N : Nat} {Q : mm_O → mm_H → Prop} (C : mm_Ok Z qX12_is X) (hRm : mt_R X = mm_rm d mc ms) (hd : 5 ≤ d) (hn : n + 1 < 1000000) (hk : k + 1 ≤ mc) (hw : w + 6 ≤ ms) {k39 : Nat → Nat → Int32 → Int32 → mm_C → mR Int32} (hk39 : ∀ (v0 : Nat) (v1 : Nat) (v2 : Int32) (v3 : Int32) (c : mm_C), hO 0 ovI n (k39 v0 v1 v2 v3 c) Q → mG Z qX12_is X k w mc ms Q (39, [(0, .ref v0), (1, .ref v1), (2, .int v2), (3, .int v3)], [], (n, c))) {v0 : Nat} {v1 : Nat} {v3 : Int32} {s0 : Int32} {c : mm_C} (hf : hO 0 ovI n (bX12_is_75 N  k39 v0 v1 v3 s0 c) Q) : mG Z qX12_is X k w mc ms Q (75, [(0, .ref v0), (1, .ref v1), (3, .int v3)], [.int s0], (n, c)) := by
  unfold bX12_is_75 at hf
  refine mg_istore_n (lv' := [(0, .ref v0), (1, .ref v1), (2, .int s0), (3, .int v3)]) C rfl (Nat.le_of_ble_eq_true rfl) rfl ?_
  refine mg_iinc (lv' := [(0, .ref v0), (1, .ref v1), (2, .int s0), (3, .int (v3 + 1))]) C rfl (Nat.le_of_ble_eq_true rfl) rfl (show _ + Int32.ofInt 1 = _ + 1 by congr 1) rfl ?_
  refine mg_goto C rfl ?_
  exact hk39 _ _ _ _ _ hf
def bX12_is_39 (N : Nat)  (k39 : Nat → Nat → Int32 → Int32 → mm_C → mR Int32) (v0 : Nat) (v1 : Nat) (v2 : Int32) (v3 : Int32) (c : mm_C) : mR Int32 :=
  if v2 = 0 then (bX12_is_82 N  v2 c) else (Option.bind (sLn v1) fun x1 => if x1 ≤ v3 then (bX12_is_82 N  v2 c) else (Option.bind (sCh v1 v3) fun x2 => Option.bind (gR c v0 12 15) fun x3 => Option.bind (gI c v0 12 21) fun x4 => Option.bind (aI c x3 (x4 + v3)) fun x5 => if ¬ x2 = x5 then (bX12_is_75 N  k39 v0 v1 v3 (0 : Int32) c) else (bX12_is_75 N  k39 v0 v1 v3 (1 : Int32) c)))
set_option maxRecDepth 100000 in
theorem wX12_is_39 {Z : mm_Z} {X : mm_T} {k w mc ms d n N : Nat} {Q : mm_O → mm_H → Prop} (C : mm_Ok Z qX12_is X) (hRm : mt_R X = mm_rm d mc ms) (hd : 5 ≤ d) (hn : n + 1 < 1000000) (hk : k + 1 ≤ mc) (hw : w + 6 ≤ ms) {k39 : Nat → Nat → Int32 → Int32 → mm_C → mR Int32} (hk39 : ∀ (v0 : Nat) (v1 : Nat) (v2 : Int32) (v3 : Int32) (c : mm_C), hO 0 ovI n (k39 v0 v1 v2 v3 c) Q → mG Z qX12_is X k w mc ms Q (39, [(0, .ref v0), (1, .ref v1), (2, .int v2), (3, .int v3)], [], (n, c))) {v0 : Nat} {v1 : Nat} {v2 : Int32} {v3 : Int32} {c : mm_C} (hf : hO 0 ovI n (bX12_is_39 N  k39 v0 v1 v2 v3 c) Q) : mG Z qX12_is X k w mc ms Q (39, [(0, .ref v0), (1, .ref v1), (2, .int v2), (3, .int v3)], [], (n, c)) := by
  unfold bX12_is_39 at hf
  refine mg_iload_n C rfl rfl ?_
  refine mh_if_eq C rfl hf (fun e_40 hf => ?_) (fun e_40 hf => ?_)
  · refine mg_sub (lv' := [(2, .int v2)]) (by simp) ?_
    exact wX12_is_82 C hRm hd hn hk hw hf
  · refine mg_iload_n C rfl rfl ?_
    refine mg_aload_n C rfl rfl ?_
    refine mh_sLn C rfl rfl hRm (by omega) (Nat.le_of_ble_eq_true rfl) (by omega) (by omega) hf (fun x1 hf => ?_)
    refine mh_icmp_ge C rfl hf (fun e_48 hf => ?_) (fun e_48 hf => ?_)
    · refine mg_sub (lv' := [(2, .int v2)]) (by simp) ?_
      exact wX12_is_82 C hRm hd hn hk hw hf
    · refine mg_aload_n C rfl rfl ?_
      refine mg_iload_n C rfl rfl ?_
      refine mh_sCh C rfl rfl hRm (by omega) (Nat.le_of_ble_eq_true rfl) (by omega) (by omega) hf (fun x2 hf => ?_)
      refine mg_aload_n C rfl rfl ?_
      refine mh_gR C rfl rfl rfl (by decide) hf (fun x3 hf => ?_)
      refine mg_aload_n C rfl rfl ?_
      refine mh_gI C rfl rfl rfl (by decide) hf (fun x4 hf => ?_)
      refine mg_iload_n C rfl rfl ?_
      refine mg_iadd C rfl ?_
      refine mh_aI C rfl hf (fun x5 hf => ?_)
      refine mh_icmp_ne C rfl hf (fun e_67 hf => ?_) (fun e_67 hf => ?_)
      · refine mg_iconst (v := 0) C rfl (by decide) ?_
        refine mg_sub (lv' := [(0, .ref v0), (1, .ref v1), (3, .int v3)]) (by simp) ?_
        exact wX12_is_75 C hRm hd hn hk hw hk39 hf
      · refine mg_iconst (v := 1) C rfl (by decide) ?_
        refine mg_goto C rfl ?_
        refine mg_sub (lv' := [(0, .ref v0), (1, .ref v1), (3, .int v3)]) (by simp) ?_
        exact wX12_is_75 C hRm hd hn hk hw hk39 hf
def lX12_is_39 (N : Nat)  : Nat → Nat → Nat → Int32 → Int32 → mm_C → mR Int32
  | 0, _, _, _, _, _ => none
  | m + 1, v0, v1, v2, v3, c => bX12_is_39 N  (lX12_is_39 N  m) v0 v1 v2 v3 c
theorem WX12_is_39 {Z : mm_Z} {X : mm_T} {k w mc ms d n N : Nat} {Q : mm_O → mm_H → Prop} (C : mm_Ok Z qX12_is X) (hRm : mt_R X = mm_rm d mc ms) (hd : 5 ≤ d) (hn : n + 1 < 1000000) (hk : k + 1 ≤ mc) (hw : w + 6 ≤ ms) : ∀ (m : Nat) {v0 : Nat} {v1 : Nat} {v2 : Int32} {v3 : Int32} {c : mm_C} (hf : hO 0 ovI n (lX12_is_39 N  m v0 v1 v2 v3 c) Q), mG Z qX12_is X k w mc ms Q (39, [(0, .ref v0), (1, .ref v1), (2, .int v2), (3, .int v3)], [], (n, c)) := by
  intro m
  induction m with
  | zero => intro v0 v1 v2 v3 c hf; exact absurd hf hO_none
  | succ m ih => intro v0 v1 v2 v3 c hf; exact wX12_is_39 C hRm hd hn hk hw (fun v0 v1 v2 v3 c hf => ih hf) hf
def bX12_is_36 (N : Nat)  (v0 : Nat) (v1 : Nat) (s0 : Int32) (c : mm_C) : mR Int32 :=
  lX12_is_39 N  N v0 v1 s0 (0 : Int32) c
set_option maxRecDepth 100000 in
theorem wX12_is_36 {Z : mm_Z} {X : mm_T} {k w mc ms d n N : Nat} {Q : mm_O → mm_H → Prop} (C : mm_Ok Z qX12_is X) (hRm : mt_R X = mm_rm d mc ms) (hd : 5 ≤ d) (hn : n + 1 < 1000000) (hk : k + 1 ≤ mc) (hw : w + 6 ≤ ms) {v0 : Nat} {v1 : Nat} {s0 : Int32} {c : mm_C} (hf : hO 0 ovI n (bX12_is_36 N  v0 v1 s0 c) Q) : mG Z qX12_is X k w mc ms Q (36, [(0, .ref v0), (1, .ref v1)], [.int s0], (n, c)) := by
  unfold bX12_is_36 at hf
  refine mg_istore_n (lv' := [(0, .ref v0), (1, .ref v1), (2, .int s0)]) C rfl (Nat.le_of_ble_eq_true rfl) rfl ?_
  refine mg_iconst (v := 0) C rfl (by decide) ?_
  refine mg_istore_n (lv' := [(0, .ref v0), (1, .ref v1), (2, .int s0), (3, .int (0 : Int32))]) C rfl (Nat.le_of_ble_eq_true rfl) rfl ?_
  exact WX12_is_39 C hRm hd hn hk hw N hf
def bX12_is_35 (N : Nat)  (v0 : Nat) (v1 : Nat) (c : mm_C) : mR Int32 :=
  bX12_is_36 N  v0 v1 (0 : Int32) c
set_option maxRecDepth 100000 in
theorem wX12_is_35 {Z : mm_Z} {X : mm_T} {k w mc ms d n N : Nat} {Q : mm_O → mm_H → Prop} (C : mm_Ok Z qX12_is X) (hRm : mt_R X = mm_rm d mc ms) (hd : 5 ≤ d) (hn : n + 1 < 1000000) (hk : k + 1 ≤ mc) (hw : w + 6 ≤ ms) {v0 : Nat} {v1 : Nat} {c : mm_C} (hf : hO 0 ovI n (bX12_is_35 N  v0 v1 c) Q) : mG Z qX12_is X k w mc ms Q (35, [(0, .ref v0), (1, .ref v1)], [], (n, c)) := by
  unfold bX12_is_35 at hf
  refine mg_iconst (v := 0) C rfl (by decide) ?_
  exact wX12_is_36 C hRm hd hn hk hw hf
def bX12_is_0 (N : Nat)  (v0 : Nat) (v1 : Nat) (c : mm_C) : mR Int32 :=
  Option.bind (gI c v0 12 23) fun x1 => if ¬ x1 = 0 then (bX12_is_35 N  v0 v1 c) else (Option.bind (gI c v0 12 19) fun x2 => if ¬ x2 = (1 : Int32) then (bX12_is_35 N  v0 v1 c) else (Option.bind (sLn v1) fun x3 => Option.bind (gI c v0 12 22) fun x4 => Option.bind (gI c v0 12 21) fun x5 => if ¬ x3 = (x4 - x5) then (bX12_is_35 N  v0 v1 c) else (bX12_is_36 N  v0 v1 (1 : Int32) c)))
set_option maxRecDepth 100000 in
theorem wX12_is_0 {Z : mm_Z} {X : mm_T} {k w mc ms d n N : Nat} {Q : mm_O → mm_H → Prop} (C : mm_Ok Z qX12_is X) (hRm : mt_R X = mm_rm d mc ms) (hd : 5 ≤ d) (hn : n + 1 < 1000000) (hk : k + 1 ≤ mc) (hw : w + 6 ≤ ms) {v0 : Nat} {v1 : Nat} {c : mm_C} (hf : hO 0 ovI n (bX12_is_0 N  v0 v1 c) Q) : mG Z qX12_is X k w mc ms Q (0, [(0, .ref v0), (1, .ref v1)], [], (n, c)) := by
  unfold bX12_is_0 at hf
  refine mg_aload_n C rfl rfl ?_
  refine mh_gI C rfl rfl rfl (by decide) hf (fun x1 hf => ?_)
  refine mh_if_ne C rfl hf (fun e_4 hf => ?_) (fun e_4 hf => ?_)
  · exact wX12_is_35 C hRm hd hn hk hw hf
  · refine mg_aload_n C rfl rfl ?_
    refine mh_gI C rfl rfl rfl (by decide) hf (fun x2 hf => ?_)
    refine mg_iconst (v := 1) C rfl (by decide) ?_
    refine mh_icmp_ne C rfl hf (fun e_12 hf => ?_) (fun e_12 hf => ?_)
    · exact wX12_is_35 C hRm hd hn hk hw hf
    · refine mg_aload_n C rfl rfl ?_
      refine mh_sLn C rfl rfl hRm (by omega) (Nat.le_of_ble_eq_true rfl) (by omega) (by omega) hf (fun x3 hf => ?_)
      refine mg_aload_n C rfl rfl ?_
      refine mh_gI C rfl rfl rfl (by decide) hf (fun x4 hf => ?_)
      refine mg_aload_n C rfl rfl ?_
      refine mh_gI C rfl rfl rfl (by decide) hf (fun x5 hf => ?_)
      refine mg_isub C rfl ?_
      refine mh_icmp_ne C rfl hf (fun e_28 hf => ?_) (fun e_28 hf => ?_)
      · exact wX12_is_35 C hRm hd hn hk hw hf
      · refine mg_iconst (v := 1) C rfl (by decide) ?_
        refine mg_goto C rfl ?_
        exact wX12_is_36 C hRm hd hn hk hw hf
def fX12_is (N : Nat) (v0 : Nat) (v1 : Nat) (c : mm_C) : mR Int32 := bX12_is_0 N v0 v1 c
set_option maxRecDepth 100000 in
theorem wX12_is {Z : mm_Z} {d n N : Nat} (hd : 5 ≤ d) (hn : n + 1 < 1000000) {v0 : Nat} {v1 : Nat} {c : mm_C} (hs : (fX12_is N v0 v1 c).isSome = true) : mC Z qX12_is d 1 6 [.ref v0, .ref v1] (n, c) (mP 0 ovI n (fX12_is N v0 v1 c)) := by
  refine mC_of gX12_is (by decide +kernel) (Nat.le_of_ble_eq_true rfl) fun X C hRm => ?_
  have hf := hO_mP 0 ovI n hs
  have hk : 0 + 1 ≤ 1 := Nat.le_of_ble_eq_true rfl
  have hw : 0 + 6 ≤ 6 := Nat.le_of_ble_eq_true rfl
  show mG _ _ _ _ _ _ _ _ (0, [(0, .ref v0), (1, .ref v1)], [], (n, c))
  exact wX12_is_0 C hRm hd hn hk hw hf
def bX12_wordOf_18 (N : Nat)  (v2 : Int32) (c : mm_C) : mR Int32 :=
  some (.inl v2, c)
set_option maxRecDepth 100000 in
theorem wX12_wordOf_18 {Z : mm_Z} {X : mm_T} {k w mc ms d n N : Nat} {Q : mm_O → mm_H → Prop} (C : mm_Ok Z qX12_wordOf X) (hRm : mt_R X = mm_rm d mc ms) (hd : 6 ≤ d) (hn : n + 1 < 1000000) (hk : k + 1 ≤ mc) (hw : w + 6 ≤ ms) {v2 : Int32} {c : mm_C} (hf : hO 0 ovI n (bX12_wordOf_18 N  v2 c) Q) : mG Z qX12_wordOf X k w mc ms Q (18, [(2, .int v2)], [], (n, c)) := by
  unfold bX12_wordOf_18 at hf
  refine mg_iload_n C rfl rfl ?_
  exact mh_ireturn C rfl (by omega) (by omega) rfl hf
def bX12_wordOf_2 (N : Nat)  (k2 : Nat → Nat → Int32 → mm_C → mR Int32) (v0 : Nat) (v1 : Nat) (v2 : Int32) (c : mm_C) : mR Int32 :=
  Option.bind (aN c v1) fun x1 => if x1 ≤ v2 then (some (.inl (-1 : Int32), c)) else (Option.bind (aR (.object "java/lang/String") c v1 v2) fun x2 => cV 12 v0 c (fX12_is N v0 x2 c) fun r3 c4 => if r3 = 0 then (k2 v0 v1 (v2 + 1) c4) else (bX12_wordOf_18 N  v2 c4))
set_option maxRecDepth 100000 in
theorem wX12_wordOf_2 {Z : mm_Z} {X : mm_T} {k w mc ms d n N : Nat} {Q : mm_O → mm_H → Prop} (C : mm_Ok Z qX12_wordOf X) (hRm : mt_R X = mm_rm d mc ms) (hd : 6 ≤ d) (hn : n + 1 < 1000000) (hk : k + 1 ≤ mc) (hw : w + 6 ≤ ms) {k2 : Nat → Nat → Int32 → mm_C → mR Int32} (hk2 : ∀ (v0 : Nat) (v1 : Nat) (v2 : Int32) (c : mm_C), hO 0 ovI n (k2 v0 v1 v2 c) Q → mG Z qX12_wordOf X k w mc ms Q (2, [(0, .ref v0), (1, .ref v1), (2, .int v2)], [], (n, c))) {v0 : Nat} {v1 : Nat} {v2 : Int32} {c : mm_C} (hf : hO 0 ovI n (bX12_wordOf_2 N  k2 v0 v1 v2 c) Q) : mG Z qX12_wordOf X k w mc ms Q (2, [(0, .ref v0), (1, .ref v1), (2, .int v2)], [], (n, c)) := by
  unfold bX12_wordOf_2 at hf
  refine mg_iload_n C rfl rfl ?_
  refine mg_aload_n C rfl rfl ?_
  refine mh_aN C rfl hf (fun x1 hf => ?_)
  refine mh_icmp_ge C rfl hf (fun e_5 hf => ?_) (fun e_5 hf => ?_)
  · refine mg_iconst (v := (-1)) C rfl (by decide) ?_
    exact mh_ireturn C rfl (by omega) (by omega) rfl hf
  · refine mg_aload_n C rfl rfl ?_
    refine mg_aload_n C rfl rfl ?_
    refine mg_iload_n C rfl rfl ?_
    refine mh_aR (ti := 6) C rfl rfl rfl hf (fun x2 hf => ?_)
    refine mh_cVI (M' := qX12_is) C rfl rfl aX12_is iX12_is sX12_is hRm (by omega) (by decide) (by omega) (by omega) rfl rfl rfl (Nat.le_of_ble_eq_true rfl) rfl hf (fun hs => wX12_is (by omega) (by omega) hs) (fun r3 c4 hf => ?_)
    refine mh_if_eq C rfl hf (fun e_15 hf => ?_) (fun e_15 hf => ?_)
    · refine mg_iinc (lv' := [(0, .ref v0), (1, .ref v1), (2, .int (v2 + 1))]) C rfl (Nat.le_of_ble_eq_true rfl) rfl (show _ + Int32.ofInt 1 = _ + 1 by congr 1) rfl ?_
      refine mg_goto C rfl ?_
      exact hk2 _ _ _ _ hf
    · refine mg_sub (lv' := [(2, .int v2)]) (by simp) ?_
      exact wX12_wordOf_18 C hRm hd hn hk hw hf
def lX12_wordOf_2 (N : Nat)  : Nat → Nat → Nat → Int32 → mm_C → mR Int32
  | 0, _, _, _, _ => none
  | m + 1, v0, v1, v2, c => bX12_wordOf_2 N  (lX12_wordOf_2 N  m) v0 v1 v2 c
theorem WX12_wordOf_2 {Z : mm_Z} {X : mm_T} {k w mc ms d n N : Nat} {Q : mm_O → mm_H → Prop} (C : mm_Ok Z qX12_wordOf X) (hRm : mt_R X = mm_rm d mc ms) (hd : 6 ≤ d) (hn : n + 1 < 1000000) (hk : k + 1 ≤ mc) (hw : w + 6 ≤ ms) : ∀ (m : Nat) {v0 : Nat} {v1 : Nat} {v2 : Int32} {c : mm_C} (hf : hO 0 ovI n (lX12_wordOf_2 N  m v0 v1 v2 c) Q), mG Z qX12_wordOf X k w mc ms Q (2, [(0, .ref v0), (1, .ref v1), (2, .int v2)], [], (n, c)) := by
  intro m
  induction m with
  | zero => intro v0 v1 v2 c hf; exact absurd hf hO_none
  | succ m ih => intro v0 v1 v2 c hf; exact wX12_wordOf_2 C hRm hd hn hk hw (fun v0 v1 v2 c hf => ih hf) hf
def bX12_wordOf_0 (N : Nat)  (v0 : Nat) (v1 : Nat) (c : mm_C) : mR Int32 :=
  lX12_wordOf_2 N  N v0 v1 (0 : Int32) c
set_option maxRecDepth 100000 in
theorem wX12_wordOf_0 {Z : mm_Z} {X : mm_T} {k w mc ms d n N : Nat} {Q : mm_O → mm_H → Prop} (C : mm_Ok Z qX12_wordOf X) (hRm : mt_R X = mm_rm d mc ms) (hd : 6 ≤ d) (hn : n + 1 < 1000000) (hk : k + 1 ≤ mc) (hw : w + 6 ≤ ms) {v0 : Nat} {v1 : Nat} {c : mm_C} (hf : hO 0 ovI n (bX12_wordOf_0 N  v0 v1 c) Q) : mG Z qX12_wordOf X k w mc ms Q (0, [(0, .ref v0), (1, .ref v1)], [], (n, c)) := by
  unfold bX12_wordOf_0 at hf
  refine mg_iconst (v := 0) C rfl (by decide) ?_
  refine mg_istore_n (lv' := [(0, .ref v0), (1, .ref v1), (2, .int (0 : Int32))]) C rfl (Nat.le_of_ble_eq_true rfl) rfl ?_
  exact WX12_wordOf_2 C hRm hd hn hk hw N hf
def fX12_wordOf (N : Nat) (v0 : Nat) (v1 : Nat) (c : mm_C) : mR Int32 := bX12_wordOf_0 N v0 v1 c
set_option maxRecDepth 100000 in
theorem wX12_wordOf {Z : mm_Z} {d n N : Nat} (hd : 6 ≤ d) (hn : n + 1 < 1000000) {v0 : Nat} {v1 : Nat} {c : mm_C} (hs : (fX12_wordOf N v0 v1 c).isSome = true) : mC Z qX12_wordOf d 1 6 [.ref v0, .ref v1] (n, c) (mP 0 ovI n (fX12_wordOf N v0 v1 c)) := by
  refine mC_of gX12_wordOf (by decide +kernel) (Nat.le_of_ble_eq_true rfl) fun X C hRm => ?_
  have hf := hO_mP 0 ovI n hs
  have hk : 0 + 1 ≤ 1 := Nat.le_of_ble_eq_true rfl
  have hw : 0 + 6 ≤ 6 := Nat.le_of_ble_eq_true rfl
  show mG _ _ _ _ _ _ _ _ (0, [(0, .ref v0), (1, .ref v1)], [], (n, c))
  exact wX12_wordOf_0 C hRm hd hn hk hw hf
def bX12_isMarked_0 (N : Nat)  (v0 : Nat) (v1 : Int32) (c : mm_C) : mR Int32 :=
  Option.bind (gI c v0 12 23) fun x1 => if ¬ x1 = 0 then (rZ (0 : Int32) c) else (Option.bind (gI c v0 12 19) fun x2 => if ¬ x2 = (3 : Int32) then (rZ (0 : Int32) c) else (Option.bind (gR c v0 12 15) fun x3 => Option.bind (gI c v0 12 21) fun x4 => Option.bind (aI c x3 x4) fun x5 => if ¬ x5 = v1 then (rZ (0 : Int32) c) else (rZ (1 : Int32) c)))
set_option maxRecDepth 100000 in
theorem wX12_isMarked_0 {Z : mm_Z} {X : mm_T} {k w mc ms d n N : Nat} {Q : mm_O → mm_H → Prop} (C : mm_Ok Z qX12_isMarked X) (hRm : mt_R X = mm_rm d mc ms) (hd : 1 ≤ d) (hn : n + 1 < 1000000) (hk : k + 1 ≤ mc) (hw : w + 6 ≤ ms) {v0 : Nat} {v1 : Int32} {c : mm_C} (hf : hO 0 ovI n (bX12_isMarked_0 N  v0 v1 c) Q) : mG Z qX12_isMarked X k w mc ms Q (0, [(0, .ref v0), (1, .int v1)], [], (n, c)) := by
  unfold bX12_isMarked_0 at hf
  refine mg_aload_n C rfl rfl ?_
  refine mh_gI C rfl rfl rfl (by decide) hf (fun x1 hf => ?_)
  refine mh_if_ne C rfl hf (fun e_4 hf => ?_) (fun e_4 hf => ?_)
  · refine mg_iconst (v := 0) C rfl (by decide) ?_
    exact mh_zreturn C rfl (by omega) (by omega) rfl hf
  · refine mg_aload_n C rfl rfl ?_
    refine mh_gI C rfl rfl rfl (by decide) hf (fun x2 hf => ?_)
    refine mg_iconst (v := 3) C rfl (by decide) ?_
    refine mh_icmp_ne C rfl hf (fun e_12 hf => ?_) (fun e_12 hf => ?_)
    · refine mg_iconst (v := 0) C rfl (by decide) ?_
      exact mh_zreturn C rfl (by omega) (by omega) rfl hf
    · refine mg_aload_n C rfl rfl ?_
      refine mh_gR C rfl rfl rfl (by decide) hf (fun x3 hf => ?_)
      refine mg_aload_n C rfl rfl ?_
      refine mh_gI C rfl rfl rfl (by decide) hf (fun x4 hf => ?_)
      refine mh_aI C rfl hf (fun x5 hf => ?_)
      refine mg_iload_n C rfl rfl ?_
      refine mh_icmp_ne C rfl hf (fun e_25 hf => ?_) (fun e_25 hf => ?_)
      · refine mg_iconst (v := 0) C rfl (by decide) ?_
        exact mh_zreturn C rfl (by omega) (by omega) rfl hf
      · refine mg_iconst (v := 1) C rfl (by decide) ?_
        refine mg_goto C rfl ?_
        exact mh_zreturn C rfl (by omega) (by omega) rfl hf
def fX12_isMarked (N : Nat) (v0 : Nat) (v1 : Int32) (c : mm_C) : mR Int32 := bX12_isMarked_0 N v0 v1 c
set_option maxRecDepth 100000 in
theorem wX12_isMarked {Z : mm_Z} {d n N : Nat} (hd : 1 ≤ d) (hn : n + 1 < 1000000) {v0 : Nat} {v1 : Int32} {c : mm_C} (hs : (fX12_isMarked N v0 v1 c).isSome = true) : mC Z qX12_isMarked d 1 6 [.ref v0, .int v1] (n, c) (mP 0 ovI n (fX12_isMarked N v0 v1 c)) := by
  refine mC_of gX12_isMarked (by decide +kernel) (Nat.le_of_ble_eq_true rfl) fun X C hRm => ?_
  have hf := hO_mP 0 ovI n hs
  have hk : 0 + 1 ≤ 1 := Nat.le_of_ble_eq_true rfl
  have hw : 0 + 6 ≤ 6 := Nat.le_of_ble_eq_true rfl
  show mG _ _ _ _ _ _ _ _ (0, [(0, .ref v0), (1, .int v1)], [], (n, c))
  exact wX12_isMarked_0 C hRm hd hn hk hw hf
def bX12_mark_20 (N : Nat)  (v0 : Nat) (c : mm_C) : mR Unit :=
  Option.bind (gI c v0 12 23) fun x1 => if ¬ x1 = 0 then (some (.inl (), c)) else (cV 12 v0 c (fX12_stepOn N v0 c) fun (_ : Unit) c2 => some (.inl (), c2))
set_option maxRecDepth 100000 in
theorem wX12_mark_20 {Z : mm_Z} {X : mm_T} {k w mc ms d n N : Nat} {Q : mm_O → mm_H → Prop} (C : mm_Ok Z qX12_mark X) (hRm : mt_R X = mm_rm d mc ms) (hd : 3 ≤ d) (hn : n + 1 < 1000000) (hk : k + 1 ≤ mc) (hw : w + 6 ≤ ms) {v0 : Nat} {c : mm_C} (hf : hO 0 ovU n (bX12_mark_20 N  v0 c) Q) : mG Z qX12_mark X k w mc ms Q (20, [(0, .ref v0)], [], (n, c)) := by
  unfold bX12_mark_20 at hf
  refine mg_aload_n C rfl rfl ?_
  refine mh_gI C rfl rfl rfl (by decide) hf (fun x1 hf => ?_)
  refine mh_if_ne C rfl hf (fun e_24 hf => ?_) (fun e_24 hf => ?_)
  · exact mh_return C rfl (by omega) (by omega) rfl hf
  · refine mg_aload_n C rfl rfl ?_
    refine mh_cVU (M' := qX12_stepOn) C rfl rfl aX12_stepOn iX12_stepOn sX12_stepOn hRm (by omega) (by decide) (by omega) (by omega) rfl rfl rfl (Nat.le_of_ble_eq_true rfl) rfl hf (fun hs => wX12_stepOn (by omega) (by omega) hs) (fun c2 hf => ?_)
    exact mh_return C rfl (by omega) (by omega) rfl hf
def bX12_mark_0 (N : Nat)  (v0 : Nat) (v1 : Int32) (c : mm_C) : mR Unit :=
  Option.bind (gI c v0 12 23) fun x1 => if ¬ x1 = 0 then (bX12_mark_20 N  v0 c) else (cV 12 v0 c (fX12_isMarked N v0 v1 c) fun r2 c3 => if ¬ r2 = 0 then (bX12_mark_20 N  v0 c3) else (cV 12 v0 c3 (fX12_wrong N v0 (1 : Int32) c3) fun (_ : Unit) c4 => bX12_mark_20 N  v0 c4))
set_option maxRecDepth 100000 in
theorem wX12_mark_0 {Z : mm_Z} {X : mm_T} {k w mc ms d n N : Nat} {Q : mm_O → mm_H → Prop} (C : mm_Ok Z qX12_mark X) (hRm : mt_R X = mm_rm d mc ms) (hd : 3 ≤ d) (hn : n + 1 < 1000000) (hk : k + 1 ≤ mc) (hw : w + 6 ≤ ms) {v0 : Nat} {v1 : Int32} {c : mm_C} (hf : hO 0 ovU n (bX12_mark_0 N  v0 v1 c) Q) : mG Z qX12_mark X k w mc ms Q (0, [(0, .ref v0), (1, .int v1)], [], (n, c)) := by
  unfold bX12_mark_0 at hf
  refine mg_aload_n C rfl rfl ?_
  refine mh_gI C rfl rfl rfl (by decide) hf (fun x1 hf => ?_)
  refine mh_if_ne C rfl hf (fun e_4 hf => ?_) (fun e_4 hf => ?_)
  · refine mg_sub (lv' := [(0, .ref v0)]) (by simp) ?_
    exact wX12_mark_20 C hRm hd hn hk hw hf
  · refine mg_aload_n C rfl rfl ?_
    refine mg_iload_n C rfl rfl ?_
    refine mh_cVI (M' := qX12_isMarked) C rfl rfl aX12_isMarked iX12_isMarked sX12_isMarked hRm (by omega) (by decide) (by omega) (by omega) rfl rfl rfl (Nat.le_of_ble_eq_true rfl) rfl hf (fun hs => wX12_isMarked (by omega) (by omega) hs) (fun r2 c3 hf => ?_)
    refine mh_if_ne C rfl hf (fun e_12 hf => ?_) (fun e_12 hf => ?_)
    · refine mg_sub (lv' := [(0, .ref v0)]) (by simp) ?_
      exact wX12_mark_20 C hRm hd hn hk hw hf
    · refine mg_aload_n C rfl rfl ?_
      refine mg_iconst (v := 1) C rfl (by decide) ?_
      refine mh_cVU (M' := qX12_wrong) C rfl rfl aX12_wrong iX12_wrong sX12_wrong hRm (by omega) (by decide) (by omega) (by omega) rfl rfl rfl (Nat.le_of_ble_eq_true rfl) rfl hf (fun hs => wX12_wrong (by omega) (by omega) hs) (fun c4 hf => ?_)
      refine mg_sub (lv' := [(0, .ref v0)]) (by simp) ?_
      exact wX12_mark_20 C hRm hd hn hk hw hf
def fX12_mark (N : Nat) (v0 : Nat) (v1 : Int32) (c : mm_C) : mR Unit := bX12_mark_0 N v0 v1 c
set_option maxRecDepth 100000 in
theorem wX12_mark {Z : mm_Z} {d n N : Nat} (hd : 3 ≤ d) (hn : n + 1 < 1000000) {v0 : Nat} {v1 : Int32} {c : mm_C} (hs : (fX12_mark N v0 v1 c).isSome = true) : mC Z qX12_mark d 1 6 [.ref v0, .int v1] (n, c) (mP 0 ovU n (fX12_mark N v0 v1 c)) := by
  refine mC_of gX12_mark (by decide +kernel) (Nat.le_of_ble_eq_true rfl) fun X C hRm => ?_
  have hf := hO_mP 0 ovU n hs
  have hk : 0 + 1 ≤ 1 := Nat.le_of_ble_eq_true rfl
  have hw : 0 + 6 ≤ 6 := Nat.le_of_ble_eq_true rfl
  show mG _ _ _ _ _ _ _ _ (0, [(0, .ref v0), (1, .int v1)], [], (n, c))
  exact wX12_mark_0 C hRm hd hn hk hw hf
def bX12_numberNow_59 (N : Nat)  (v0 : Nat) (c : mm_C) : mR Int32 :=
  Option.bind (gI c v0 12 23) fun x1 => if ¬ x1 = 0 then (some (.inl (0 : Int32), c)) else (Option.bind (gI c v0 12 20) fun x2 => some (.inl x2, c))
set_option maxRecDepth 100000 in
theorem wX12_numberNow_59 {Z : mm_Z} {X : mm_T} {k w mc ms d n N : Nat} {Q : mm_O → mm_H → Prop} (C : mm_Ok Z qX12_numberNow X) (hRm : mt_R X = mm_rm d mc ms) (hd : 2 ≤ d) (hn : n + 1 < 1000000) (hk : k + 1 ≤ mc) (hw : w + 6 ≤ ms) {v0 : Nat} {c : mm_C} (hf : hO 0 ovI n (bX12_numberNow_59 N  v0 c) Q) : mG Z qX12_numberNow X k w mc ms Q (59, [(0, .ref v0)], [], (n, c)) := by
  unfold bX12_numberNow_59 at hf
  refine mg_aload_n C rfl rfl ?_
  refine mh_gI C rfl rfl rfl (by decide) hf (fun x1 hf => ?_)
  refine mh_if_ne C rfl hf (fun e_63 hf => ?_) (fun e_63 hf => ?_)
  · refine mg_iconst (v := 0) C rfl (by decide) ?_
    exact mh_ireturn C rfl (by omega) (by omega) rfl hf
  · refine mg_aload_n C rfl rfl ?_
    refine mh_gI C rfl rfl rfl (by decide) hf (fun x2 hf => ?_)
    refine mg_goto C rfl ?_
    exact mh_ireturn C rfl (by omega) (by omega) rfl hf
def bX12_numberNow_54 (N : Nat)  (v0 : Nat) (c : mm_C) : mR Int32 :=
  cV 12 v0 c (fX12_wrong N v0 (2 : Int32) c) fun (_ : Unit) c1 => bX12_numberNow_59 N  v0 c1
set_option maxRecDepth 100000 in
theorem wX12_numberNow_54 {Z : mm_Z} {X : mm_T} {k w mc ms d n N : Nat} {Q : mm_O → mm_H → Prop} (C : mm_Ok Z qX12_numberNow X) (hRm : mt_R X = mm_rm d mc ms) (hd : 2 ≤ d) (hn : n + 1 < 1000000) (hk : k + 1 ≤ mc) (hw : w + 6 ≤ ms) {v0 : Nat} {c : mm_C} (hf : hO 0 ovI n (bX12_numberNow_54 N  v0 c) Q) : mG Z qX12_numberNow X k w mc ms Q (54, [(0, .ref v0)], [], (n, c)) := by
  unfold bX12_numberNow_54 at hf
  refine mg_aload_n C rfl rfl ?_
  refine mg_iconst (v := 2) C rfl (by decide) ?_
  refine mh_cVU (M' := qX12_wrong) C rfl rfl aX12_wrong iX12_wrong sX12_wrong hRm (by omega) (by decide) (by omega) (by omega) rfl rfl rfl (Nat.le_of_ble_eq_true rfl) rfl hf (fun hs => wX12_wrong (by omega) (by omega) hs) (fun c1 hf => ?_)
  exact wX12_numberNow_59 C hRm hd hn hk hw hf
def bX12_numberNow_0 (N : Nat)  (v0 : Nat) (v1 : Int32) (v2 : Int32) (c : mm_C) : mR Int32 :=
  Option.bind (gI c v0 12 23) fun x1 => if x1 = 0 then (Option.bind (gI c v0 12 19) fun x2 => if x2 = (2 : Int32) then (Option.bind (gI c v0 12 22) fun x3 => Option.bind (gI c v0 12 21) fun x4 => if (4 : Int32) < (x3 - x4) then (bX12_numberNow_54 N  v0 c) else (Option.bind (gI c v0 12 20) fun x5 => if x5 < v1 then (bX12_numberNow_54 N  v0 c) else (Option.bind (gI c v0 12 20) fun x6 => if x6 ≤ v2 then (bX12_numberNow_59 N  v0 c) else (bX12_numberNow_54 N  v0 c)))) else (cV 12 v0 c (fX12_wrong N v0 (1 : Int32) c) fun (_ : Unit) c7 => bX12_numberNow_59 N  v0 c7)) else (some (.inl (0 : Int32), c))
set_option maxRecDepth 100000 in
theorem wX12_numberNow_0 {Z : mm_Z} {X : mm_T} {k w mc ms d n N : Nat} {Q : mm_O → mm_H → Prop} (C : mm_Ok Z qX12_numberNow X) (hRm : mt_R X = mm_rm d mc ms) (hd : 2 ≤ d) (hn : n + 1 < 1000000) (hk : k + 1 ≤ mc) (hw : w + 6 ≤ ms) {v0 : Nat} {v1 : Int32} {v2 : Int32} {c : mm_C} (hf : hO 0 ovI n (bX12_numberNow_0 N  v0 v1 v2 c) Q) : mG Z qX12_numberNow X k w mc ms Q (0, [(0, .ref v0), (1, .int v1), (2, .int v2)], [], (n, c)) := by
  unfold bX12_numberNow_0 at hf
  refine mg_aload_n C rfl rfl ?_
  refine mh_gI C rfl rfl rfl (by decide) hf (fun x1 hf => ?_)
  refine mh_if_eq C rfl hf (fun e_4 hf => ?_) (fun e_4 hf => ?_)
  · refine mg_aload_n C rfl rfl ?_
    refine mh_gI C rfl rfl rfl (by decide) hf (fun x2 hf => ?_)
    refine mg_iconst (v := 2) C rfl (by decide) ?_
    refine mh_icmp_eq C rfl hf (fun e_14 hf => ?_) (fun e_14 hf => ?_)
    · refine mg_aload_n C rfl rfl ?_
      refine mh_gI C rfl rfl rfl (by decide) hf (fun x3 hf => ?_)
      refine mg_aload_n C rfl rfl ?_
      refine mh_gI C rfl rfl rfl (by decide) hf (fun x4 hf => ?_)
      refine mg_isub C rfl ?_
      refine mg_iconst (v := 4) C rfl (by decide) ?_
      refine mh_icmp_gt C rfl hf (fun e_35 hf => ?_) (fun e_35 hf => ?_)
      · refine mg_sub (lv' := [(0, .ref v0)]) (by simp) ?_
        exact wX12_numberNow_54 C hRm hd hn hk hw hf
      · refine mg_aload_n C rfl rfl ?_
        refine mh_gI C rfl rfl rfl (by decide) hf (fun x5 hf => ?_)
        refine mg_iload_n C rfl rfl ?_
        refine mh_icmp_lt C rfl hf (fun e_43 hf => ?_) (fun e_43 hf => ?_)
        · refine mg_sub (lv' := [(0, .ref v0)]) (by simp) ?_
          exact wX12_numberNow_54 C hRm hd hn hk hw hf
        · refine mg_aload_n C rfl rfl ?_
          refine mh_gI C rfl rfl rfl (by decide) hf (fun x6 hf => ?_)
          refine mg_iload_n C rfl rfl ?_
          refine mh_icmp_le C rfl hf (fun e_51 hf => ?_) (fun e_51 hf => ?_)
          · refine mg_sub (lv' := [(0, .ref v0)]) (by simp) ?_
            exact wX12_numberNow_59 C hRm hd hn hk hw hf
          · refine mg_sub (lv' := [(0, .ref v0)]) (by simp) ?_
            exact wX12_numberNow_54 C hRm hd hn hk hw hf
    · refine mg_aload_n C rfl rfl ?_
      refine mg_iconst (v := 1) C rfl (by decide) ?_
      refine mh_cVU (M' := qX12_wrong) C rfl rfl aX12_wrong iX12_wrong sX12_wrong hRm (by omega) (by decide) (by omega) (by omega) rfl rfl rfl (Nat.le_of_ble_eq_true rfl) rfl hf (fun hs => wX12_wrong (by omega) (by omega) hs) (fun c7 hf => ?_)
      refine mg_goto C rfl ?_
      refine mg_sub (lv' := [(0, .ref v0)]) (by simp) ?_
      exact wX12_numberNow_59 C hRm hd hn hk hw hf
  · refine mg_iconst (v := 0) C rfl (by decide) ?_
    exact mh_ireturn C rfl (by omega) (by omega) rfl hf
def fX12_numberNow (N : Nat) (v0 : Nat) (v1 : Int32) (v2 : Int32) (c : mm_C) : mR Int32 := bX12_numberNow_0 N v0 v1 v2 c
set_option maxRecDepth 100000 in
theorem wX12_numberNow {Z : mm_Z} {d n N : Nat} (hd : 2 ≤ d) (hn : n + 1 < 1000000) {v0 : Nat} {v1 : Int32} {v2 : Int32} {c : mm_C} (hs : (fX12_numberNow N v0 v1 v2 c).isSome = true) : mC Z qX12_numberNow d 1 6 [.ref v0, .int v1, .int v2] (n, c) (mP 0 ovI n (fX12_numberNow N v0 v1 v2 c)) := by
  refine mC_of gX12_numberNow (by decide +kernel) (Nat.le_of_ble_eq_true rfl) fun X C hRm => ?_
  have hf := hO_mP 0 ovI n hs
  have hk : 0 + 1 ≤ 1 := Nat.le_of_ble_eq_true rfl
  have hw : 0 + 6 ≤ 6 := Nat.le_of_ble_eq_true rfl
  show mG _ _ _ _ _ _ _ _ (0, [(0, .ref v0), (1, .int v1), (2, .int v2)], [], (n, c))
  exact wX12_numberNow_0 C hRm hd hn hk hw hf
def bX12_readNumber_18 (N : Nat)  (v3 : Int32) (c : mm_C) : mR Int32 :=
  some (.inl v3, c)
set_option maxRecDepth 100000 in
theorem wX12_readNumber_18 {Z : mm_Z} {X : mm_T} {k w mc ms d n N : Nat} {Q : mm_O → mm_H → Prop} (C : mm_Ok Z qX12_readNumber X) (hRm : mt_R X = mm_rm d mc ms) (hd : 3 ≤ d) (hn : n + 1 < 1000000) (hk : k + 1 ≤ mc) (hw : w + 6 ≤ ms) {v3 : Int32} {c : mm_C} (hf : hO 0 ovI n (bX12_readNumber_18 N  v3 c) Q) : mG Z qX12_readNumber X k w mc ms Q (18, [(3, .int v3)], [], (n, c)) := by
  unfold bX12_readNumber_18 at hf
  refine mg_iload_n C rfl rfl ?_
  exact mh_ireturn C rfl (by omega) (by omega) rfl hf
def bX12_readNumber_0 (N : Nat)  (v0 : Nat) (v1 : Int32) (v2 : Int32) (c : mm_C) : mR Int32 :=
  cV 12 v0 c (fX12_numberNow N v0 v1 v2 c) fun r1 c2 => Option.bind (gI c2 v0 12 23) fun x3 => if ¬ x3 = 0 then (bX12_readNumber_18 N  r1 c2) else (cV 12 v0 c2 (fX12_stepOn N v0 c2) fun (_ : Unit) c4 => bX12_readNumber_18 N  r1 c4)
set_option maxRecDepth 100000 in
theorem wX12_readNumber_0 {Z : mm_Z} {X : mm_T} {k w mc ms d n N : Nat} {Q : mm_O → mm_H → Prop} (C : mm_Ok Z qX12_readNumber X) (hRm : mt_R X = mm_rm d mc ms) (hd : 3 ≤ d) (hn : n + 1 < 1000000) (hk : k + 1 ≤ mc) (hw : w + 6 ≤ ms) {v0 : Nat} {v1 : Int32} {v2 : Int32} {c : mm_C} (hf : hO 0 ovI n (bX12_readNumber_0 N  v0 v1 v2 c) Q) : mG Z qX12_readNumber X k w mc ms Q (0, [(0, .ref v0), (1, .int v1), (2, .int v2)], [], (n, c)) := by
  unfold bX12_readNumber_0 at hf
  refine mg_aload_n C rfl rfl ?_
  refine mg_iload_n C rfl rfl ?_
  refine mg_iload_n C rfl rfl ?_
  refine mh_cVI (M' := qX12_numberNow) C rfl rfl aX12_numberNow iX12_numberNow sX12_numberNow hRm (by omega) (by decide) (by omega) (by omega) rfl rfl rfl (Nat.le_of_ble_eq_true rfl) rfl hf (fun hs => wX12_numberNow (by omega) (by omega) hs) (fun r1 c2 hf => ?_)
  refine mg_istore_n (lv' := [(0, .ref v0), (1, .int v1), (2, .int v2), (3, .int r1)]) C rfl (Nat.le_of_ble_eq_true rfl) rfl ?_
  refine mg_aload_n C rfl rfl ?_
  refine mh_gI C rfl rfl rfl (by decide) hf (fun x3 hf => ?_)
  refine mh_if_ne C rfl hf (fun e_11 hf => ?_) (fun e_11 hf => ?_)
  · refine mg_sub (lv' := [(3, .int r1)]) (by simp) ?_
    exact wX12_readNumber_18 C hRm hd hn hk hw hf
  · refine mg_aload_n C rfl rfl ?_
    refine mh_cVU (M' := qX12_stepOn) C rfl rfl aX12_stepOn iX12_stepOn sX12_stepOn hRm (by omega) (by decide) (by omega) (by omega) rfl rfl rfl (Nat.le_of_ble_eq_true rfl) rfl hf (fun hs => wX12_stepOn (by omega) (by omega) hs) (fun c4 hf => ?_)
    refine mg_sub (lv' := [(3, .int r1)]) (by simp) ?_
    exact wX12_readNumber_18 C hRm hd hn hk hw hf
def fX12_readNumber (N : Nat) (v0 : Nat) (v1 : Int32) (v2 : Int32) (c : mm_C) : mR Int32 := bX12_readNumber_0 N v0 v1 v2 c
set_option maxRecDepth 100000 in
theorem wX12_readNumber {Z : mm_Z} {d n N : Nat} (hd : 3 ≤ d) (hn : n + 1 < 1000000) {v0 : Nat} {v1 : Int32} {v2 : Int32} {c : mm_C} (hs : (fX12_readNumber N v0 v1 v2 c).isSome = true) : mC Z qX12_readNumber d 1 6 [.ref v0, .int v1, .int v2] (n, c) (mP 0 ovI n (fX12_readNumber N v0 v1 v2 c)) := by
  refine mC_of gX12_readNumber (by decide +kernel) (Nat.le_of_ble_eq_true rfl) fun X C hRm => ?_
  have hf := hO_mP 0 ovI n hs
  have hk : 0 + 1 ≤ 1 := Nat.le_of_ble_eq_true rfl
  have hw : 0 + 6 ≤ 6 := Nat.le_of_ble_eq_true rfl
  show mG _ _ _ _ _ _ _ _ (0, [(0, .ref v0), (1, .int v1), (2, .int v2)], [], (n, c))
  exact wX12_readNumber_0 C hRm hd hn hk hw hf
def bX12_lay_0 (N : Nat)  (v0 : Nat) (v1 : Int32) (c : mm_C) : mR Unit :=
  Option.bind (gI c v0 12 23) fun x1 => if x1 = 0 then (Option.bind (gR c v0 12 13) fun x2 => Option.bind (gR c v0 12 3) fun x3 => Option.bind (aI c x3 (14 : Int32)) fun x4 => Option.bind (tI c x2 ((700 : Int32) + x4) v1) fun c5 => Option.bind (gR c5 v0 12 3) fun x6 => Option.bind (aI c5 x6 (14 : Int32)) fun x7 => Option.bind (tI c5 x6 (14 : Int32) (x7 + (1 : Int32))) fun c8 => some (.inl (), c8)) else (some (.inl (), c))
set_option maxRecDepth 100000 in
theorem wX12_lay_0 {Z : mm_Z} {X : mm_T} {k w mc ms d n N : Nat} {Q : mm_O → mm_H → Prop} (C : mm_Ok Z qX12_lay X) (hRm : mt_R X = mm_rm d mc ms) (hd : 1 ≤ d) (hn : n + 1 < 1000000) (hk : k + 1 ≤ mc) (hw : w + 6 ≤ ms) {v0 : Nat} {v1 : Int32} {c : mm_C} (hf : hO 0 ovU n (bX12_lay_0 N  v0 v1 c) Q) : mG Z qX12_lay X k w mc ms Q (0, [(0, .ref v0), (1, .int v1)], [], (n, c)) := by
  unfold bX12_lay_0 at hf
  refine mg_aload_n C rfl rfl ?_
  refine mh_gI C rfl rfl rfl (by decide) hf (fun x1 hf => ?_)
  refine mh_if_eq C rfl hf (fun e_4 hf => ?_) (fun e_4 hf => ?_)
  · refine mg_aload_n C rfl rfl ?_
    refine mh_gR C rfl rfl rfl (by decide) hf (fun x2 hf => ?_)
    refine mg_sipush (v := 700) C rfl (by decide) ?_
    refine mg_aload_n C rfl rfl ?_
    refine mh_gR C rfl rfl rfl (by decide) hf (fun x3 hf => ?_)
    refine mg_bipush (v := 14) C rfl (by decide) ?_
    refine mh_aI C rfl hf (fun x4 hf => ?_)
    refine mg_iadd C rfl ?_
    refine mg_iload_n C rfl rfl ?_
    refine mh_tI C rfl hf (fun c5 hf => ?_)
    refine mg_aload_n C rfl rfl ?_
    refine mh_gR C rfl rfl rfl (by decide) hf (fun x6 hf => ?_)
    refine mg_bipush (v := 14) C rfl (by decide) ?_
    refine mg_dup2 C rfl rfl rfl ?_
    refine mh_aI C rfl hf (fun x7 hf => ?_)
    refine mg_iconst (v := 1) C rfl (by decide) ?_
    refine mg_iadd C rfl ?_
    refine mh_tI C rfl hf (fun c8 hf => ?_)
    exact mh_return C rfl (by omega) (by omega) rfl hf
  · exact mh_return C rfl (by omega) (by omega) rfl hf
def fX12_lay (N : Nat) (v0 : Nat) (v1 : Int32) (c : mm_C) : mR Unit := bX12_lay_0 N v0 v1 c
set_option maxRecDepth 100000 in
theorem wX12_lay {Z : mm_Z} {d n N : Nat} (hd : 1 ≤ d) (hn : n + 1 < 1000000) {v0 : Nat} {v1 : Int32} {c : mm_C} (hs : (fX12_lay N v0 v1 c).isSome = true) : mC Z qX12_lay d 1 6 [.ref v0, .int v1] (n, c) (mP 0 ovU n (fX12_lay N v0 v1 c)) := by
  refine mC_of gX12_lay (by decide +kernel) (Nat.le_of_ble_eq_true rfl) fun X C hRm => ?_
  have hf := hO_mP 0 ovU n hs
  have hk : 0 + 1 ≤ 1 := Nat.le_of_ble_eq_true rfl
  have hw : 0 + 6 ≤ 6 := Nat.le_of_ble_eq_true rfl
  show mG _ _ _ _ _ _ _ _ (0, [(0, .ref v0), (1, .int v1)], [], (n, c))
  exact wX12_lay_0 C hRm hd hn hk hw hf
def bX12_readPart_56 (N : Nat) (eE : Nat → Int32 → mm_C → mR Unit)  (v0 : Nat) (v2 : Int32) (c : mm_C) : mR Unit :=
  cV 12 v0 c (fX12_lay N v0 ((-1 : Int32) - v2) c) fun (_ : Unit) c1 => Option.bind (gI c1 v0 12 23) fun x2 => if ¬ x2 = 0 then (some (.inl (), c1)) else (cV 12 v0 c1 (fX12_stepOn N v0 c1) fun (_ : Unit) c3 => some (.inl (), c3))
set_option maxRecDepth 100000 in
theorem wX12_readPart_56 {Z : mm_Z} {X : mm_T} {k w mc ms d n N : Nat} {Q : mm_O → mm_H → Prop} {eE : Nat → Int32 → mm_C → mR Unit} {dE : Nat} (hE : hE_X12_readExpression Z dE eE) (C : mm_Ok Z qX12_readPart X) (hRm : mt_R X = mm_rm d mc ms) (hd : 7 ≤ d) (hde : dE + 1 ≤ d) (hn : n + 1 < 1000000) (hk : k + 1 ≤ mc) (hw : w + 6 ≤ ms) {v0 : Nat} {v2 : Int32} {c : mm_C} (hf : hO 0 ovU n (bX12_readPart_56 N eE  v0 v2 c) Q) : mG Z qX12_readPart X k w mc ms Q (56, [(0, .ref v0), (2, .int v2)], [], (n, c)) := by
  unfold bX12_readPart_56 at hf
  refine mg_aload_n C rfl rfl ?_
  refine mg_iconst (v := (-1)) C rfl (by decide) ?_
  refine mg_iload_n C rfl rfl ?_
  refine mg_isub C rfl ?_
  refine mh_cVU (M' := qX12_lay) C rfl rfl aX12_lay iX12_lay sX12_lay hRm (by omega) (by decide) (by omega) (by omega) rfl rfl rfl (Nat.le_of_ble_eq_true rfl) rfl hf (fun hs => wX12_lay (by omega) (by omega) hs) (fun c1 hf => ?_)
  refine mg_aload_n C rfl rfl ?_
  refine mh_gI C rfl rfl rfl (by decide) hf (fun x2 hf => ?_)
  refine mh_if_ne C rfl hf (fun e_67 hf => ?_) (fun e_67 hf => ?_)
  · exact mh_return C rfl (by omega) (by omega) rfl hf
  · refine mg_aload_n C rfl rfl ?_
    refine mh_cVU (M' := qX12_stepOn) C rfl rfl aX12_stepOn iX12_stepOn sX12_stepOn hRm (by omega) (by decide) (by omega) (by omega) rfl rfl rfl (Nat.le_of_ble_eq_true rfl) rfl hf (fun hs => wX12_stepOn (by omega) (by omega) hs) (fun c3 hf => ?_)
    exact mh_return C rfl (by omega) (by omega) rfl hf
def bX12_readPart_0 (N : Nat) (eE : Nat → Int32 → mm_C → mR Unit)  (v0 : Nat) (v1 : Int32) (c : mm_C) : mR Unit :=
  Option.bind (gI c v0 12 23) fun x1 => if x1 = 0 then (Option.bind (gI c v0 12 19) fun x2 => if ¬ x2 = (2 : Int32) then (Option.bind (gI c v0 12 19) fun x3 => if ¬ x3 = (1 : Int32) then (cV 12 v0 c (fX12_mark N v0 (40 : Int32) c) fun (_ : Unit) c4 => cV 12 v0 c4 (eE v0 (v1 + (1 : Int32)) c4) fun (_ : Unit) c5 => cV 12 v0 c5 (fX12_mark N v0 (41 : Int32) c5) fun (_ : Unit) c6 => some (.inl (), c6)) else (Option.bind (gR c v0 12 1) fun x7 => cV 12 v0 c (fX12_wordOf N v0 x7 c) fun r8 c9 => if ¬ r8 = (-1 : Int32) then (bX12_readPart_56 N eE  v0 r8 c9) else (cV 12 v0 c9 (fX12_wrong N v0 (3 : Int32) c9) fun (_ : Unit) c10 => bX12_readPart_56 N eE  v0 r8 c10))) else (cV 12 v0 c (fX12_readNumber N v0 (0 : Int32) (9999 : Int32) c) fun r11 c12 => cV 12 v0 c12 (fX12_lay N v0 r11 c12) fun (_ : Unit) c13 => some (.inl (), c13))) else (some (.inl (), c))
set_option maxRecDepth 100000 in
theorem wX12_readPart_0 {Z : mm_Z} {X : mm_T} {k w mc ms d n N : Nat} {Q : mm_O → mm_H → Prop} {eE : Nat → Int32 → mm_C → mR Unit} {dE : Nat} (hE : hE_X12_readExpression Z dE eE) (C : mm_Ok Z qX12_readPart X) (hRm : mt_R X = mm_rm d mc ms) (hd : 7 ≤ d) (hde : dE + 1 ≤ d) (hn : n + 1 < 1000000) (hk : k + 1 ≤ mc) (hw : w + 6 ≤ ms) {v0 : Nat} {v1 : Int32} {c : mm_C} (hf : hO 0 ovU n (bX12_readPart_0 N eE  v0 v1 c) Q) : mG Z qX12_readPart X k w mc ms Q (0, [(0, .ref v0), (1, .int v1)], [], (n, c)) := by
  unfold bX12_readPart_0 at hf
  refine mg_aload_n C rfl rfl ?_
  refine mh_gI C rfl rfl rfl (by decide) hf (fun x1 hf => ?_)
  refine mh_if_eq C rfl hf (fun e_4 hf => ?_) (fun e_4 hf => ?_)
  · refine mg_aload_n C rfl rfl ?_
    refine mh_gI C rfl rfl rfl (by decide) hf (fun x2 hf => ?_)
    refine mg_iconst (v := 2) C rfl (by decide) ?_
    refine mh_icmp_ne C rfl hf (fun e_13 hf => ?_) (fun e_13 hf => ?_)
    · refine mg_aload_n C rfl rfl ?_
      refine mh_gI C rfl rfl rfl (by decide) hf (fun x3 hf => ?_)
      refine mg_iconst (v := 1) C rfl (by decide) ?_
      refine mh_icmp_ne C rfl hf (fun e_34 hf => ?_) (fun e_34 hf => ?_)
      · refine mg_aload_n C rfl rfl ?_
        refine mg_bipush (v := 40) C rfl (by decide) ?_
        refine mh_cVU (M' := qX12_mark) C rfl rfl aX12_mark iX12_mark sX12_mark hRm (by omega) (by decide) (by omega) (by omega) rfl rfl rfl (Nat.le_of_ble_eq_true rfl) rfl hf (fun hs => wX12_mark (by omega) (by omega) hs) (fun c4 hf => ?_)
        refine mg_aload_n C rfl rfl ?_
        refine mg_iload_n C rfl rfl ?_
        refine mg_iconst (v := 1) C rfl (by decide) ?_
        refine mg_iadd C rfl ?_
        refine mh_cVU (M' := qX12_readExpression) C rfl rfl aX12_readExpression iX12_readExpression sX12_readExpression hRm (by omega) (by decide) (by omega) (by omega) rfl rfl rfl (Nat.le_of_ble_eq_true rfl) rfl hf (fun hs => hE _ (by omega) _ (by omega) _ _ _ hs) (fun c5 hf => ?_)
        refine mg_aload_n C rfl rfl ?_
        refine mg_bipush (v := 41) C rfl (by decide) ?_
        refine mh_cVU (M' := qX12_mark) C rfl rfl aX12_mark iX12_mark sX12_mark hRm (by omega) (by decide) (by omega) (by omega) rfl rfl rfl (Nat.le_of_ble_eq_true rfl) rfl hf (fun hs => wX12_mark (by omega) (by omega) hs) (fun c6 hf => ?_)
        exact mh_return C rfl (by omega) (by omega) rfl hf
      · refine mg_aload_n C rfl rfl ?_
        refine mg_aload_n C rfl rfl ?_
        refine mh_gR C rfl rfl rfl (by decide) hf (fun x7 hf => ?_)
        refine mh_cVI (M' := qX12_wordOf) C rfl rfl aX12_wordOf iX12_wordOf sX12_wordOf hRm (by omega) (by decide) (by omega) (by omega) rfl rfl rfl (Nat.le_of_ble_eq_true rfl) rfl hf (fun hs => wX12_wordOf (by omega) (by omega) hs) (fun r8 c9 hf => ?_)
        refine mg_istore_n (lv' := [(0, .ref v0), (1, .int v1), (2, .int r8)]) C rfl (Nat.le_of_ble_eq_true rfl) rfl ?_
        refine mg_iload_n C rfl rfl ?_
        refine mg_iconst (v := (-1)) C rfl (by decide) ?_
        refine mh_icmp_ne C rfl hf (fun e_48 hf => ?_) (fun e_48 hf => ?_)
        · refine mg_sub (lv' := [(0, .ref v0), (2, .int r8)]) (by simp) ?_
          exact wX12_readPart_56 hE C hRm hd hde hn hk hw hf
        · refine mg_aload_n C rfl rfl ?_
          refine mg_iconst (v := 3) C rfl (by decide) ?_
          refine mh_cVU (M' := qX12_wrong) C rfl rfl aX12_wrong iX12_wrong sX12_wrong hRm (by omega) (by decide) (by omega) (by omega) rfl rfl rfl (Nat.le_of_ble_eq_true rfl) rfl hf (fun hs => wX12_wrong (by omega) (by omega) hs) (fun c10 hf => ?_)
          refine mg_sub (lv' := [(0, .ref v0), (2, .int r8)]) (by simp) ?_
          exact wX12_readPart_56 hE C hRm hd hde hn hk hw hf
    · refine mg_aload_n C rfl rfl ?_
      refine mg_aload_n C rfl rfl ?_
      refine mg_iconst (v := 0) C rfl (by decide) ?_
      refine mg_sipush (v := 9999) C rfl (by decide) ?_
      refine mh_cVI (M' := qX12_readNumber) C rfl rfl aX12_readNumber iX12_readNumber sX12_readNumber hRm (by omega) (by decide) (by omega) (by omega) rfl rfl rfl (Nat.le_of_ble_eq_true rfl) rfl hf (fun hs => wX12_readNumber (by omega) (by omega) hs) (fun r11 c12 hf => ?_)
      refine mh_cVU (M' := qX12_lay) C rfl rfl aX12_lay iX12_lay sX12_lay hRm (by omega) (by decide) (by omega) (by omega) rfl rfl rfl (Nat.le_of_ble_eq_true rfl) rfl hf (fun hs => wX12_lay (by omega) (by omega) hs) (fun c13 hf => ?_)
      exact mh_return C rfl (by omega) (by omega) rfl hf
  · exact mh_return C rfl (by omega) (by omega) rfl hf
def fX12_readPart (N : Nat) (eE : Nat → Int32 → mm_C → mR Unit) (v0 : Nat) (v1 : Int32) (c : mm_C) : mR Unit := bX12_readPart_0 N eE v0 v1 c
set_option maxRecDepth 100000 in
theorem wX12_readPart {Z : mm_Z} {d n N : Nat} {eE : Nat → Int32 → mm_C → mR Unit} {dE : Nat} (hE : hE_X12_readExpression Z dE eE) (hd : 7 ≤ d) (hde : dE + 1 ≤ d) (hn : n + 1 < 1000000) {v0 : Nat} {v1 : Int32} {c : mm_C} (hs : (fX12_readPart N eE v0 v1 c).isSome = true) : mC Z qX12_readPart d 1 6 [.ref v0, .int v1] (n, c) (mP 0 ovU n (fX12_readPart N eE v0 v1 c)) := by
  refine mC_of gX12_readPart (by decide +kernel) (Nat.le_of_ble_eq_true rfl) fun X C hRm => ?_
  have hf := hO_mP 0 ovU n hs
  have hk : 0 + 1 ≤ 1 := Nat.le_of_ble_eq_true rfl
  have hw : 0 + 6 ≤ 6 := Nat.le_of_ble_eq_true rfl
  show mG _ _ _ _ _ _ _ _ (0, [(0, .ref v0), (1, .int v1)], [], (n, c))
  exact wX12_readPart_0 hE C hRm hd hde hn hk hw hf
def bX12_readProduct_39 (N : Nat) (eE : Nat → Int32 → mm_C → mR Unit)  (k5 : Nat → Int32 → mm_C → mR Unit) (v0 : Nat) (v1 : Int32) (s0 : Int32) (c : mm_C) : mR Unit :=
  cV 12 v0 c (fX12_stepOn N v0 c) fun (_ : Unit) c1 => cV 12 v0 c1 (fX12_readPart N eE v0 v1 c1) fun (_ : Unit) c2 => cV 12 v0 c2 (fX12_lay N v0 s0 c2) fun (_ : Unit) c3 => k5 v0 v1 c3
set_option maxRecDepth 100000 in
theorem wX12_readProduct_39 {Z : mm_Z} {X : mm_T} {k w mc ms d n N : Nat} {Q : mm_O → mm_H → Prop} {eE : Nat → Int32 → mm_C → mR Unit} {dE : Nat} (hE : hE_X12_readExpression Z dE eE) (C : mm_Ok Z qX12_readProduct X) (hRm : mt_R X = mm_rm d mc ms) (hd : 8 ≤ d) (hde : dE + 2 ≤ d) (hn : n + 1 < 1000000) (hk : k + 1 ≤ mc) (hw : w + 6 ≤ ms) {k5 : Nat → Int32 → mm_C → mR Unit} (hk5 : ∀ (v0 : Nat) (v1 : Int32) (c : mm_C), hO 0 ovU n (k5 v0 v1 c) Q → mG Z qX12_readProduct X k w mc ms Q (5, [(0, .ref v0), (1, .int v1)], [], (n, c))) {v0 : Nat} {v1 : Int32} {s0 : Int32} {c : mm_C} (hf : hO 0 ovU n (bX12_readProduct_39 N eE  k5 v0 v1 s0 c) Q) : mG Z qX12_readProduct X k w mc ms Q (39, [(0, .ref v0), (1, .int v1)], [.int s0], (n, c)) := by
  unfold bX12_readProduct_39 at hf
  refine mg_istore_n (lv' := [(0, .ref v0), (1, .int v1), (2, .int s0)]) C rfl (Nat.le_of_ble_eq_true rfl) rfl ?_
  refine mg_aload_n C rfl rfl ?_
  refine mh_cVU (M' := qX12_stepOn) C rfl rfl aX12_stepOn iX12_stepOn sX12_stepOn hRm (by omega) (by decide) (by omega) (by omega) rfl rfl rfl (Nat.le_of_ble_eq_true rfl) rfl hf (fun hs => wX12_stepOn (by omega) (by omega) hs) (fun c1 hf => ?_)
  refine mg_aload_n C rfl rfl ?_
  refine mg_iload_n C rfl rfl ?_
  refine mh_cVU (M' := qX12_readPart) C rfl rfl aX12_readPart iX12_readPart sX12_readPart hRm (by omega) (by decide) (by omega) (by omega) rfl rfl rfl (Nat.le_of_ble_eq_true rfl) rfl hf (fun hs => wX12_readPart hE (by omega) (by omega) (by omega) hs) (fun c2 hf => ?_)
  refine mg_aload_n C rfl rfl ?_
  refine mg_iload_n C rfl rfl ?_
  refine mh_cVU (M' := qX12_lay) C rfl rfl aX12_lay iX12_lay sX12_lay hRm (by omega) (by decide) (by omega) (by omega) rfl rfl rfl (Nat.le_of_ble_eq_true rfl) rfl hf (fun hs => wX12_lay (by omega) (by omega) hs) (fun c3 hf => ?_)
  refine mg_goto C rfl ?_
  refine mg_sub (lv' := [(0, .ref v0), (1, .int v1)]) (by simp) ?_
  exact hk5 _ _ _ hf
def bX12_readProduct_23 (N : Nat) (eE : Nat → Int32 → mm_C → mR Unit)  (k5 : Nat → Int32 → mm_C → mR Unit) (v0 : Nat) (v1 : Int32) (c : mm_C) : mR Unit :=
  cV 12 v0 c (fX12_isMarked N v0 (42 : Int32) c) fun r1 c2 => if r1 = 0 then (bX12_readProduct_39 N eE  k5 v0 v1 (-23 : Int32) c2) else (bX12_readProduct_39 N eE  k5 v0 v1 (-22 : Int32) c2)
set_option maxRecDepth 100000 in
theorem wX12_readProduct_23 {Z : mm_Z} {X : mm_T} {k w mc ms d n N : Nat} {Q : mm_O → mm_H → Prop} {eE : Nat → Int32 → mm_C → mR Unit} {dE : Nat} (hE : hE_X12_readExpression Z dE eE) (C : mm_Ok Z qX12_readProduct X) (hRm : mt_R X = mm_rm d mc ms) (hd : 8 ≤ d) (hde : dE + 2 ≤ d) (hn : n + 1 < 1000000) (hk : k + 1 ≤ mc) (hw : w + 6 ≤ ms) {k5 : Nat → Int32 → mm_C → mR Unit} (hk5 : ∀ (v0 : Nat) (v1 : Int32) (c : mm_C), hO 0 ovU n (k5 v0 v1 c) Q → mG Z qX12_readProduct X k w mc ms Q (5, [(0, .ref v0), (1, .int v1)], [], (n, c))) {v0 : Nat} {v1 : Int32} {c : mm_C} (hf : hO 0 ovU n (bX12_readProduct_23 N eE  k5 v0 v1 c) Q) : mG Z qX12_readProduct X k w mc ms Q (23, [(0, .ref v0), (1, .int v1)], [], (n, c)) := by
  unfold bX12_readProduct_23 at hf
  refine mg_aload_n C rfl rfl ?_
  refine mg_bipush (v := 42) C rfl (by decide) ?_
  refine mh_cVI (M' := qX12_isMarked) C rfl rfl aX12_isMarked iX12_isMarked sX12_isMarked hRm (by omega) (by decide) (by omega) (by omega) rfl rfl rfl (Nat.le_of_ble_eq_true rfl) rfl hf (fun hs => wX12_isMarked (by omega) (by omega) hs) (fun r1 c2 hf => ?_)
  refine mh_if_eq C rfl hf (fun e_29 hf => ?_) (fun e_29 hf => ?_)
  · refine mg_bipush (v := (-23)) C rfl (by decide) ?_
    exact wX12_readProduct_39 hE C hRm hd hde hn hk hw hk5 hf
  · refine mg_bipush (v := (-22)) C rfl (by decide) ?_
    refine mg_goto C rfl ?_
    exact wX12_readProduct_39 hE C hRm hd hde hn hk hw hk5 hf
def bX12_readProduct_5 (N : Nat) (eE : Nat → Int32 → mm_C → mR Unit)  (k5 : Nat → Int32 → mm_C → mR Unit) (v0 : Nat) (v1 : Int32) (c : mm_C) : mR Unit :=
  cV 12 v0 c (fX12_isMarked N v0 (42 : Int32) c) fun r1 c2 => if ¬ r1 = 0 then (bX12_readProduct_23 N eE  k5 v0 v1 c2) else (cV 12 v0 c2 (fX12_isMarked N v0 (47 : Int32) c2) fun r3 c4 => if r3 = 0 then (some (.inl (), c4)) else (bX12_readProduct_23 N eE  k5 v0 v1 c4))
set_option maxRecDepth 100000 in
theorem wX12_readProduct_5 {Z : mm_Z} {X : mm_T} {k w mc ms d n N : Nat} {Q : mm_O → mm_H → Prop} {eE : Nat → Int32 → mm_C → mR Unit} {dE : Nat} (hE : hE_X12_readExpression Z dE eE) (C : mm_Ok Z qX12_readProduct X) (hRm : mt_R X = mm_rm d mc ms) (hd : 8 ≤ d) (hde : dE + 2 ≤ d) (hn : n + 1 < 1000000) (hk : k + 1 ≤ mc) (hw : w + 6 ≤ ms) {k5 : Nat → Int32 → mm_C → mR Unit} (hk5 : ∀ (v0 : Nat) (v1 : Int32) (c : mm_C), hO 0 ovU n (k5 v0 v1 c) Q → mG Z qX12_readProduct X k w mc ms Q (5, [(0, .ref v0), (1, .int v1)], [], (n, c))) {v0 : Nat} {v1 : Int32} {c : mm_C} (hf : hO 0 ovU n (bX12_readProduct_5 N eE  k5 v0 v1 c) Q) : mG Z qX12_readProduct X k w mc ms Q (5, [(0, .ref v0), (1, .int v1)], [], (n, c)) := by
  unfold bX12_readProduct_5 at hf
  refine mg_aload_n C rfl rfl ?_
  refine mg_bipush (v := 42) C rfl (by decide) ?_
  refine mh_cVI (M' := qX12_isMarked) C rfl rfl aX12_isMarked iX12_isMarked sX12_isMarked hRm (by omega) (by decide) (by omega) (by omega) rfl rfl rfl (Nat.le_of_ble_eq_true rfl) rfl hf (fun hs => wX12_isMarked (by omega) (by omega) hs) (fun r1 c2 hf => ?_)
  refine mh_if_ne C rfl hf (fun e_11 hf => ?_) (fun e_11 hf => ?_)
  · exact wX12_readProduct_23 hE C hRm hd hde hn hk hw hk5 hf
  · refine mg_aload_n C rfl rfl ?_
    refine mg_bipush (v := 47) C rfl (by decide) ?_
    refine mh_cVI (M' := qX12_isMarked) C rfl rfl aX12_isMarked iX12_isMarked sX12_isMarked hRm (by omega) (by decide) (by omega) (by omega) rfl rfl rfl (Nat.le_of_ble_eq_true rfl) rfl hf (fun hs => wX12_isMarked (by omega) (by omega) hs) (fun r3 c4 hf => ?_)
    refine mh_if_eq C rfl hf (fun e_20 hf => ?_) (fun e_20 hf => ?_)
    · exact mh_return C rfl (by omega) (by omega) rfl hf
    · exact wX12_readProduct_23 hE C hRm hd hde hn hk hw hk5 hf
def lX12_readProduct_5 (N : Nat) (eE : Nat → Int32 → mm_C → mR Unit)  : Nat → Nat → Int32 → mm_C → mR Unit
  | 0, _, _, _ => none
  | m + 1, v0, v1, c => bX12_readProduct_5 N eE  (lX12_readProduct_5 N eE  m) v0 v1 c
theorem WX12_readProduct_5 {Z : mm_Z} {X : mm_T} {k w mc ms d n N : Nat} {Q : mm_O → mm_H → Prop} {eE : Nat → Int32 → mm_C → mR Unit} {dE : Nat} (hE : hE_X12_readExpression Z dE eE) (C : mm_Ok Z qX12_readProduct X) (hRm : mt_R X = mm_rm d mc ms) (hd : 8 ≤ d) (hde : dE + 2 ≤ d) (hn : n + 1 < 1000000) (hk : k + 1 ≤ mc) (hw : w + 6 ≤ ms) : ∀ (m : Nat) {v0 : Nat} {v1 : Int32} {c : mm_C} (hf : hO 0 ovU n (lX12_readProduct_5 N eE  m v0 v1 c) Q), mG Z qX12_readProduct X k w mc ms Q (5, [(0, .ref v0), (1, .int v1)], [], (n, c)) := by
  intro m
  induction m with
  | zero => intro v0 v1 c hf; exact absurd hf hO_none
  | succ m ih => intro v0 v1 c hf; exact wX12_readProduct_5 hE C hRm hd hde hn hk hw (fun v0 v1 c hf => ih hf) hf
def bX12_readProduct_0 (N : Nat) (eE : Nat → Int32 → mm_C → mR Unit)  (v0 : Nat) (v1 : Int32) (c : mm_C) : mR Unit :=
  cV 12 v0 c (fX12_readPart N eE v0 v1 c) fun (_ : Unit) c1 => lX12_readProduct_5 N eE  N v0 v1 c1
set_option maxRecDepth 100000 in
theorem wX12_readProduct_0 {Z : mm_Z} {X : mm_T} {k w mc ms d n N : Nat} {Q : mm_O → mm_H → Prop} {eE : Nat → Int32 → mm_C → mR Unit} {dE : Nat} (hE : hE_X12_readExpression Z dE eE) (C : mm_Ok Z qX12_readProduct X) (hRm : mt_R X = mm_rm d mc ms) (hd : 8 ≤ d) (hde : dE + 2 ≤ d) (hn : n + 1 < 1000000) (hk : k + 1 ≤ mc) (hw : w + 6 ≤ ms) {v0 : Nat} {v1 : Int32} {c : mm_C} (hf : hO 0 ovU n (bX12_readProduct_0 N eE  v0 v1 c) Q) : mG Z qX12_readProduct X k w mc ms Q (0, [(0, .ref v0), (1, .int v1)], [], (n, c)) := by
  unfold bX12_readProduct_0 at hf
  refine mg_aload_n C rfl rfl ?_
  refine mg_iload_n C rfl rfl ?_
  refine mh_cVU (M' := qX12_readPart) C rfl rfl aX12_readPart iX12_readPart sX12_readPart hRm (by omega) (by decide) (by omega) (by omega) rfl rfl rfl (Nat.le_of_ble_eq_true rfl) rfl hf (fun hs => wX12_readPart hE (by omega) (by omega) (by omega) hs) (fun c1 hf => ?_)
  exact WX12_readProduct_5 hE C hRm hd hde hn hk hw N hf
def fX12_readProduct (N : Nat) (eE : Nat → Int32 → mm_C → mR Unit) (v0 : Nat) (v1 : Int32) (c : mm_C) : mR Unit := bX12_readProduct_0 N eE v0 v1 c
set_option maxRecDepth 100000 in
theorem wX12_readProduct {Z : mm_Z} {d n N : Nat} {eE : Nat → Int32 → mm_C → mR Unit} {dE : Nat} (hE : hE_X12_readExpression Z dE eE) (hd : 8 ≤ d) (hde : dE + 2 ≤ d) (hn : n + 1 < 1000000) {v0 : Nat} {v1 : Int32} {c : mm_C} (hs : (fX12_readProduct N eE v0 v1 c).isSome = true) : mC Z qX12_readProduct d 1 6 [.ref v0, .int v1] (n, c) (mP 0 ovU n (fX12_readProduct N eE v0 v1 c)) := by
  refine mC_of gX12_readProduct (by decide +kernel) (Nat.le_of_ble_eq_true rfl) fun X C hRm => ?_
  have hf := hO_mP 0 ovU n hs
  have hk : 0 + 1 ≤ 1 := Nat.le_of_ble_eq_true rfl
  have hw : 0 + 6 ≤ 6 := Nat.le_of_ble_eq_true rfl
  show mG _ _ _ _ _ _ _ _ (0, [(0, .ref v0), (1, .int v1)], [], (n, c))
  exact wX12_readProduct_0 hE C hRm hd hde hn hk hw hf
def bX12_readSum_39 (N : Nat) (eE : Nat → Int32 → mm_C → mR Unit)  (k5 : Nat → Int32 → mm_C → mR Unit) (v0 : Nat) (v1 : Int32) (s0 : Int32) (c : mm_C) : mR Unit :=
  cV 12 v0 c (fX12_stepOn N v0 c) fun (_ : Unit) c1 => cV 12 v0 c1 (fX12_readProduct N eE v0 v1 c1) fun (_ : Unit) c2 => cV 12 v0 c2 (fX12_lay N v0 s0 c2) fun (_ : Unit) c3 => k5 v0 v1 c3
set_option maxRecDepth 100000 in
theorem wX12_readSum_39 {Z : mm_Z} {X : mm_T} {k w mc ms d n N : Nat} {Q : mm_O → mm_H → Prop} {eE : Nat → Int32 → mm_C → mR Unit} {dE : Nat} (hE : hE_X12_readExpression Z dE eE) (C : mm_Ok Z qX12_readSum X) (hRm : mt_R X = mm_rm d mc ms) (hd : 9 ≤ d) (hde : dE + 3 ≤ d) (hn : n + 1 < 1000000) (hk : k + 1 ≤ mc) (hw : w + 6 ≤ ms) {k5 : Nat → Int32 → mm_C → mR Unit} (hk5 : ∀ (v0 : Nat) (v1 : Int32) (c : mm_C), hO 0 ovU n (k5 v0 v1 c) Q → mG Z qX12_readSum X k w mc ms Q (5, [(0, .ref v0), (1, .int v1)], [], (n, c))) {v0 : Nat} {v1 : Int32} {s0 : Int32} {c : mm_C} (hf : hO 0 ovU n (bX12_readSum_39 N eE  k5 v0 v1 s0 c) Q) : mG Z qX12_readSum X k w mc ms Q (39, [(0, .ref v0), (1, .int v1)], [.int s0], (n, c)) := by
  unfold bX12_readSum_39 at hf
  refine mg_istore_n (lv' := [(0, .ref v0), (1, .int v1), (2, .int s0)]) C rfl (Nat.le_of_ble_eq_true rfl) rfl ?_
  refine mg_aload_n C rfl rfl ?_
  refine mh_cVU (M' := qX12_stepOn) C rfl rfl aX12_stepOn iX12_stepOn sX12_stepOn hRm (by omega) (by decide) (by omega) (by omega) rfl rfl rfl (Nat.le_of_ble_eq_true rfl) rfl hf (fun hs => wX12_stepOn (by omega) (by omega) hs) (fun c1 hf => ?_)
  refine mg_aload_n C rfl rfl ?_
  refine mg_iload_n C rfl rfl ?_
  refine mh_cVU (M' := qX12_readProduct) C rfl rfl aX12_readProduct iX12_readProduct sX12_readProduct hRm (by omega) (by decide) (by omega) (by omega) rfl rfl rfl (Nat.le_of_ble_eq_true rfl) rfl hf (fun hs => wX12_readProduct hE (by omega) (by omega) (by omega) hs) (fun c2 hf => ?_)
  refine mg_aload_n C rfl rfl ?_
  refine mg_iload_n C rfl rfl ?_
  refine mh_cVU (M' := qX12_lay) C rfl rfl aX12_lay iX12_lay sX12_lay hRm (by omega) (by decide) (by omega) (by omega) rfl rfl rfl (Nat.le_of_ble_eq_true rfl) rfl hf (fun hs => wX12_lay (by omega) (by omega) hs) (fun c3 hf => ?_)
  refine mg_goto C rfl ?_
  refine mg_sub (lv' := [(0, .ref v0), (1, .int v1)]) (by simp) ?_
  exact hk5 _ _ _ hf
def bX12_readSum_23 (N : Nat) (eE : Nat → Int32 → mm_C → mR Unit)  (k5 : Nat → Int32 → mm_C → mR Unit) (v0 : Nat) (v1 : Int32) (c : mm_C) : mR Unit :=
  cV 12 v0 c (fX12_isMarked N v0 (43 : Int32) c) fun r1 c2 => if r1 = 0 then (bX12_readSum_39 N eE  k5 v0 v1 (-21 : Int32) c2) else (bX12_readSum_39 N eE  k5 v0 v1 (-20 : Int32) c2)
set_option maxRecDepth 100000 in
theorem wX12_readSum_23 {Z : mm_Z} {X : mm_T} {k w mc ms d n N : Nat} {Q : mm_O → mm_H → Prop} {eE : Nat → Int32 → mm_C → mR Unit} {dE : Nat} (hE : hE_X12_readExpression Z dE eE) (C : mm_Ok Z qX12_readSum X) (hRm : mt_R X = mm_rm d mc ms) (hd : 9 ≤ d) (hde : dE + 3 ≤ d) (hn : n + 1 < 1000000) (hk : k + 1 ≤ mc) (hw : w + 6 ≤ ms) {k5 : Nat → Int32 → mm_C → mR Unit} (hk5 : ∀ (v0 : Nat) (v1 : Int32) (c : mm_C), hO 0 ovU n (k5 v0 v1 c) Q → mG Z qX12_readSum X k w mc ms Q (5, [(0, .ref v0), (1, .int v1)], [], (n, c))) {v0 : Nat} {v1 : Int32} {c : mm_C} (hf : hO 0 ovU n (bX12_readSum_23 N eE  k5 v0 v1 c) Q) : mG Z qX12_readSum X k w mc ms Q (23, [(0, .ref v0), (1, .int v1)], [], (n, c)) := by
  unfold bX12_readSum_23 at hf
  refine mg_aload_n C rfl rfl ?_
  refine mg_bipush (v := 43) C rfl (by decide) ?_
  refine mh_cVI (M' := qX12_isMarked) C rfl rfl aX12_isMarked iX12_isMarked sX12_isMarked hRm (by omega) (by decide) (by omega) (by omega) rfl rfl rfl (Nat.le_of_ble_eq_true rfl) rfl hf (fun hs => wX12_isMarked (by omega) (by omega) hs) (fun r1 c2 hf => ?_)
  refine mh_if_eq C rfl hf (fun e_29 hf => ?_) (fun e_29 hf => ?_)
  · refine mg_bipush (v := (-21)) C rfl (by decide) ?_
    exact wX12_readSum_39 hE C hRm hd hde hn hk hw hk5 hf
  · refine mg_bipush (v := (-20)) C rfl (by decide) ?_
    refine mg_goto C rfl ?_
    exact wX12_readSum_39 hE C hRm hd hde hn hk hw hk5 hf
def bX12_readSum_5 (N : Nat) (eE : Nat → Int32 → mm_C → mR Unit)  (k5 : Nat → Int32 → mm_C → mR Unit) (v0 : Nat) (v1 : Int32) (c : mm_C) : mR Unit :=
  cV 12 v0 c (fX12_isMarked N v0 (43 : Int32) c) fun r1 c2 => if ¬ r1 = 0 then (bX12_readSum_23 N eE  k5 v0 v1 c2) else (cV 12 v0 c2 (fX12_isMarked N v0 (45 : Int32) c2) fun r3 c4 => if r3 = 0 then (some (.inl (), c4)) else (bX12_readSum_23 N eE  k5 v0 v1 c4))
set_option maxRecDepth 100000 in
theorem wX12_readSum_5 {Z : mm_Z} {X : mm_T} {k w mc ms d n N : Nat} {Q : mm_O → mm_H → Prop} {eE : Nat → Int32 → mm_C → mR Unit} {dE : Nat} (hE : hE_X12_readExpression Z dE eE) (C : mm_Ok Z qX12_readSum X) (hRm : mt_R X = mm_rm d mc ms) (hd : 9 ≤ d) (hde : dE + 3 ≤ d) (hn : n + 1 < 1000000) (hk : k + 1 ≤ mc) (hw : w + 6 ≤ ms) {k5 : Nat → Int32 → mm_C → mR Unit} (hk5 : ∀ (v0 : Nat) (v1 : Int32) (c : mm_C), hO 0 ovU n (k5 v0 v1 c) Q → mG Z qX12_readSum X k w mc ms Q (5, [(0, .ref v0), (1, .int v1)], [], (n, c))) {v0 : Nat} {v1 : Int32} {c : mm_C} (hf : hO 0 ovU n (bX12_readSum_5 N eE  k5 v0 v1 c) Q) : mG Z qX12_readSum X k w mc ms Q (5, [(0, .ref v0), (1, .int v1)], [], (n, c)) := by
  unfold bX12_readSum_5 at hf
  refine mg_aload_n C rfl rfl ?_
  refine mg_bipush (v := 43) C rfl (by decide) ?_
  refine mh_cVI (M' := qX12_isMarked) C rfl rfl aX12_isMarked iX12_isMarked sX12_isMarked hRm (by omega) (by decide) (by omega) (by omega) rfl rfl rfl (Nat.le_of_ble_eq_true rfl) rfl hf (fun hs => wX12_isMarked (by omega) (by omega) hs) (fun r1 c2 hf => ?_)
  refine mh_if_ne C rfl hf (fun e_11 hf => ?_) (fun e_11 hf => ?_)
  · exact wX12_readSum_23 hE C hRm hd hde hn hk hw hk5 hf
  · refine mg_aload_n C rfl rfl ?_
    refine mg_bipush (v := 45) C rfl (by decide) ?_
    refine mh_cVI (M' := qX12_isMarked) C rfl rfl aX12_isMarked iX12_isMarked sX12_isMarked hRm (by omega) (by decide) (by omega) (by omega) rfl rfl rfl (Nat.le_of_ble_eq_true rfl) rfl hf (fun hs => wX12_isMarked (by omega) (by omega) hs) (fun r3 c4 hf => ?_)
    refine mh_if_eq C rfl hf (fun e_20 hf => ?_) (fun e_20 hf => ?_)
    · exact mh_return C rfl (by omega) (by omega) rfl hf
    · exact wX12_readSum_23 hE C hRm hd hde hn hk hw hk5 hf
def lX12_readSum_5 (N : Nat) (eE : Nat → Int32 → mm_C → mR Unit)  : Nat → Nat → Int32 → mm_C → mR Unit
  | 0, _, _, _ => none
  | m + 1, v0, v1, c => bX12_readSum_5 N eE  (lX12_readSum_5 N eE  m) v0 v1 c
theorem WX12_readSum_5 {Z : mm_Z} {X : mm_T} {k w mc ms d n N : Nat} {Q : mm_O → mm_H → Prop} {eE : Nat → Int32 → mm_C → mR Unit} {dE : Nat} (hE : hE_X12_readExpression Z dE eE) (C : mm_Ok Z qX12_readSum X) (hRm : mt_R X = mm_rm d mc ms) (hd : 9 ≤ d) (hde : dE + 3 ≤ d) (hn : n + 1 < 1000000) (hk : k + 1 ≤ mc) (hw : w + 6 ≤ ms) : ∀ (m : Nat) {v0 : Nat} {v1 : Int32} {c : mm_C} (hf : hO 0 ovU n (lX12_readSum_5 N eE  m v0 v1 c) Q), mG Z qX12_readSum X k w mc ms Q (5, [(0, .ref v0), (1, .int v1)], [], (n, c)) := by
  intro m
  induction m with
  | zero => intro v0 v1 c hf; exact absurd hf hO_none
  | succ m ih => intro v0 v1 c hf; exact wX12_readSum_5 hE C hRm hd hde hn hk hw (fun v0 v1 c hf => ih hf) hf
def bX12_readSum_0 (N : Nat) (eE : Nat → Int32 → mm_C → mR Unit)  (v0 : Nat) (v1 : Int32) (c : mm_C) : mR Unit :=
  cV 12 v0 c (fX12_readProduct N eE v0 v1 c) fun (_ : Unit) c1 => lX12_readSum_5 N eE  N v0 v1 c1
set_option maxRecDepth 100000 in
theorem wX12_readSum_0 {Z : mm_Z} {X : mm_T} {k w mc ms d n N : Nat} {Q : mm_O → mm_H → Prop} {eE : Nat → Int32 → mm_C → mR Unit} {dE : Nat} (hE : hE_X12_readExpression Z dE eE) (C : mm_Ok Z qX12_readSum X) (hRm : mt_R X = mm_rm d mc ms) (hd : 9 ≤ d) (hde : dE + 3 ≤ d) (hn : n + 1 < 1000000) (hk : k + 1 ≤ mc) (hw : w + 6 ≤ ms) {v0 : Nat} {v1 : Int32} {c : mm_C} (hf : hO 0 ovU n (bX12_readSum_0 N eE  v0 v1 c) Q) : mG Z qX12_readSum X k w mc ms Q (0, [(0, .ref v0), (1, .int v1)], [], (n, c)) := by
  unfold bX12_readSum_0 at hf
  refine mg_aload_n C rfl rfl ?_
  refine mg_iload_n C rfl rfl ?_
  refine mh_cVU (M' := qX12_readProduct) C rfl rfl aX12_readProduct iX12_readProduct sX12_readProduct hRm (by omega) (by decide) (by omega) (by omega) rfl rfl rfl (Nat.le_of_ble_eq_true rfl) rfl hf (fun hs => wX12_readProduct hE (by omega) (by omega) (by omega) hs) (fun c1 hf => ?_)
  exact WX12_readSum_5 hE C hRm hd hde hn hk hw N hf
def fX12_readSum (N : Nat) (eE : Nat → Int32 → mm_C → mR Unit) (v0 : Nat) (v1 : Int32) (c : mm_C) : mR Unit := bX12_readSum_0 N eE v0 v1 c
set_option maxRecDepth 100000 in
theorem wX12_readSum {Z : mm_Z} {d n N : Nat} {eE : Nat → Int32 → mm_C → mR Unit} {dE : Nat} (hE : hE_X12_readExpression Z dE eE) (hd : 9 ≤ d) (hde : dE + 3 ≤ d) (hn : n + 1 < 1000000) {v0 : Nat} {v1 : Int32} {c : mm_C} (hs : (fX12_readSum N eE v0 v1 c).isSome = true) : mC Z qX12_readSum d 1 6 [.ref v0, .int v1] (n, c) (mP 0 ovU n (fX12_readSum N eE v0 v1 c)) := by
  refine mC_of gX12_readSum (by decide +kernel) (Nat.le_of_ble_eq_true rfl) fun X C hRm => ?_
  have hf := hO_mP 0 ovU n hs
  have hk : 0 + 1 ≤ 1 := Nat.le_of_ble_eq_true rfl
  have hw : 0 + 6 ≤ 6 := Nat.le_of_ble_eq_true rfl
  show mG _ _ _ _ _ _ _ _ (0, [(0, .ref v0), (1, .int v1)], [], (n, c))
  exact wX12_readSum_0 hE C hRm hd hde hn hk hw hf
def bX12_readNot_95 (N : Nat) (eE : Nat → Int32 → mm_C → mR Unit)  (k95 : Nat → Int32 → Int32 → mm_C → mR Unit) (v0 : Nat) (v2 : Int32) (v3 : Int32) (c : mm_C) : mR Unit :=
  if v2 ≤ v3 then (some (.inl (), c)) else (cV 12 v0 c (fX12_lay N v0 (-28 : Int32) c) fun (_ : Unit) c1 => k95 v0 v2 (v3 + 1) c1)
set_option maxRecDepth 100000 in
theorem wX12_readNot_95 {Z : mm_Z} {X : mm_T} {k w mc ms d n N : Nat} {Q : mm_O → mm_H → Prop} {eE : Nat → Int32 → mm_C → mR Unit} {dE : Nat} (hE : hE_X12_readExpression Z dE eE) (C : mm_Ok Z qX12_readNot X) (hRm : mt_R X = mm_rm d mc ms) (hd : 10 ≤ d) (hde : dE + 4 ≤ d) (hn : n + 1 < 1000000) (hk : k + 1 ≤ mc) (hw : w + 6 ≤ ms) {k95 : Nat → Int32 → Int32 → mm_C → mR Unit} (hk95 : ∀ (v0 : Nat) (v2 : Int32) (v3 : Int32) (c : mm_C), hO 0 ovU n (k95 v0 v2 v3 c) Q → mG Z qX12_readNot X k w mc ms Q (95, [(0, .ref v0), (2, .int v2), (3, .int v3)], [], (n, c))) {v0 : Nat} {v2 : Int32} {v3 : Int32} {c : mm_C} (hf : hO 0 ovU n (bX12_readNot_95 N eE  k95 v0 v2 v3 c) Q) : mG Z qX12_readNot X k w mc ms Q (95, [(0, .ref v0), (2, .int v2), (3, .int v3)], [], (n, c)) := by
  unfold bX12_readNot_95 at hf
  refine mg_iload_n C rfl rfl ?_
  refine mg_iload_n C rfl rfl ?_
  refine mh_icmp_ge C rfl hf (fun e_97 hf => ?_) (fun e_97 hf => ?_)
  · exact mh_return C rfl (by omega) (by omega) rfl hf
  · refine mg_aload_n C rfl rfl ?_
    refine mg_bipush (v := (-28)) C rfl (by decide) ?_
    refine mh_cVU (M' := qX12_lay) C rfl rfl aX12_lay iX12_lay sX12_lay hRm (by omega) (by decide) (by omega) (by omega) rfl rfl rfl (Nat.le_of_ble_eq_true rfl) rfl hf (fun hs => wX12_lay (by omega) (by omega) hs) (fun c1 hf => ?_)
    refine mg_iinc (lv' := [(0, .ref v0), (2, .int v2), (3, .int (v3 + 1))]) C rfl (Nat.le_of_ble_eq_true rfl) rfl (show _ + Int32.ofInt 1 = _ + 1 by congr 1) rfl ?_
    refine mg_goto C rfl ?_
    exact hk95 _ _ _ _ hf
def lX12_readNot_95 (N : Nat) (eE : Nat → Int32 → mm_C → mR Unit)  : Nat → Nat → Int32 → Int32 → mm_C → mR Unit
  | 0, _, _, _, _ => none
  | m + 1, v0, v2, v3, c => bX12_readNot_95 N eE  (lX12_readNot_95 N eE  m) v0 v2 v3 c
theorem WX12_readNot_95 {Z : mm_Z} {X : mm_T} {k w mc ms d n N : Nat} {Q : mm_O → mm_H → Prop} {eE : Nat → Int32 → mm_C → mR Unit} {dE : Nat} (hE : hE_X12_readExpression Z dE eE) (C : mm_Ok Z qX12_readNot X) (hRm : mt_R X = mm_rm d mc ms) (hd : 10 ≤ d) (hde : dE + 4 ≤ d) (hn : n + 1 < 1000000) (hk : k + 1 ≤ mc) (hw : w + 6 ≤ ms) : ∀ (m : Nat) {v0 : Nat} {v2 : Int32} {v3 : Int32} {c : mm_C} (hf : hO 0 ovU n (lX12_readNot_95 N eE  m v0 v2 v3 c) Q), mG Z qX12_readNot X k w mc ms Q (95, [(0, .ref v0), (2, .int v2), (3, .int v3)], [], (n, c)) := by
  intro m
  induction m with
  | zero => intro v0 v2 v3 c hf; exact absurd hf hO_none
  | succ m ih => intro v0 v2 v3 c hf; exact wX12_readNot_95 hE C hRm hd hde hn hk hw (fun v0 v2 v3 c hf => ih hf) hf
def bX12_readNot_93 (N : Nat) (eE : Nat → Int32 → mm_C → mR Unit)  (v0 : Nat) (v2 : Int32) (c : mm_C) : mR Unit :=
  lX12_readNot_95 N eE  N v0 v2 (0 : Int32) c
set_option maxRecDepth 100000 in
theorem wX12_readNot_93 {Z : mm_Z} {X : mm_T} {k w mc ms d n N : Nat} {Q : mm_O → mm_H → Prop} {eE : Nat → Int32 → mm_C → mR Unit} {dE : Nat} (hE : hE_X12_readExpression Z dE eE) (C : mm_Ok Z qX12_readNot X) (hRm : mt_R X = mm_rm d mc ms) (hd : 10 ≤ d) (hde : dE + 4 ≤ d) (hn : n + 1 < 1000000) (hk : k + 1 ≤ mc) (hw : w + 6 ≤ ms) {v0 : Nat} {v2 : Int32} {c : mm_C} (hf : hO 0 ovU n (bX12_readNot_93 N eE  v0 v2 c) Q) : mG Z qX12_readNot X k w mc ms Q (93, [(0, .ref v0), (2, .int v2)], [], (n, c)) := by
  unfold bX12_readNot_93 at hf
  refine mg_iconst (v := 0) C rfl (by decide) ?_
  refine mg_istore_n (lv' := [(0, .ref v0), (2, .int v2), (3, .int (0 : Int32))]) C rfl (Nat.le_of_ble_eq_true rfl) rfl ?_
  exact WX12_readNot_95 hE C hRm hd hde hn hk hw N hf
def bX12_readNot_78 (N : Nat) (eE : Nat → Int32 → mm_C → mR Unit)  (v0 : Nat) (v1 : Int32) (v2 : Int32) (s0 : Int32) (c : mm_C) : mR Unit :=
  cV 12 v0 c (fX12_stepOn N v0 c) fun (_ : Unit) c1 => cV 12 v0 c1 (fX12_readSum N eE v0 v1 c1) fun (_ : Unit) c2 => cV 12 v0 c2 (fX12_lay N v0 s0 c2) fun (_ : Unit) c3 => bX12_readNot_93 N eE  v0 v2 c3
set_option maxRecDepth 100000 in
theorem wX12_readNot_78 {Z : mm_Z} {X : mm_T} {k w mc ms d n N : Nat} {Q : mm_O → mm_H → Prop} {eE : Nat → Int32 → mm_C → mR Unit} {dE : Nat} (hE : hE_X12_readExpression Z dE eE) (C : mm_Ok Z qX12_readNot X) (hRm : mt_R X = mm_rm d mc ms) (hd : 10 ≤ d) (hde : dE + 4 ≤ d) (hn : n + 1 < 1000000) (hk : k + 1 ≤ mc) (hw : w + 6 ≤ ms) {v0 : Nat} {v1 : Int32} {v2 : Int32} {s0 : Int32} {c : mm_C} (hf : hO 0 ovU n (bX12_readNot_78 N eE  v0 v1 v2 s0 c) Q) : mG Z qX12_readNot X k w mc ms Q (78, [(0, .ref v0), (1, .int v1), (2, .int v2)], [.int s0], (n, c)) := by
  unfold bX12_readNot_78 at hf
  refine mg_istore_n (lv' := [(0, .ref v0), (1, .int v1), (2, .int v2), (3, .int s0)]) C rfl (Nat.le_of_ble_eq_true rfl) rfl ?_
  refine mg_aload_n C rfl rfl ?_
  refine mh_cVU (M' := qX12_stepOn) C rfl rfl aX12_stepOn iX12_stepOn sX12_stepOn hRm (by omega) (by decide) (by omega) (by omega) rfl rfl rfl (Nat.le_of_ble_eq_true rfl) rfl hf (fun hs => wX12_stepOn (by omega) (by omega) hs) (fun c1 hf => ?_)
  refine mg_aload_n C rfl rfl ?_
  refine mg_iload_n C rfl rfl ?_
  refine mh_cVU (M' := qX12_readSum) C rfl rfl aX12_readSum iX12_readSum sX12_readSum hRm (by omega) (by decide) (by omega) (by omega) rfl rfl rfl (Nat.le_of_ble_eq_true rfl) rfl hf (fun hs => wX12_readSum hE (by omega) (by omega) (by omega) hs) (fun c2 hf => ?_)
  refine mg_aload_n C rfl rfl ?_
  refine mg_iload_n C rfl rfl ?_
  refine mh_cVU (M' := qX12_lay) C rfl rfl aX12_lay iX12_lay sX12_lay hRm (by omega) (by decide) (by omega) (by omega) rfl rfl rfl (Nat.le_of_ble_eq_true rfl) rfl hf (fun hs => wX12_lay (by omega) (by omega) hs) (fun c3 hf => ?_)
  refine mg_sub (lv' := [(0, .ref v0), (2, .int v2)]) (by simp) ?_
  exact wX12_readNot_93 hE C hRm hd hde hn hk hw hf
def bX12_readNot_62 (N : Nat) (eE : Nat → Int32 → mm_C → mR Unit)  (v0 : Nat) (v1 : Int32) (v2 : Int32) (c : mm_C) : mR Unit :=
  cV 12 v0 c (fX12_isMarked N v0 (60 : Int32) c) fun r1 c2 => if r1 = 0 then (bX12_readNot_78 N eE  v0 v1 v2 (-25 : Int32) c2) else (bX12_readNot_78 N eE  v0 v1 v2 (-24 : Int32) c2)
set_option maxRecDepth 100000 in
theorem wX12_readNot_62 {Z : mm_Z} {X : mm_T} {k w mc ms d n N : Nat} {Q : mm_O → mm_H → Prop} {eE : Nat → Int32 → mm_C → mR Unit} {dE : Nat} (hE : hE_X12_readExpression Z dE eE) (C : mm_Ok Z qX12_readNot X) (hRm : mt_R X = mm_rm d mc ms) (hd : 10 ≤ d) (hde : dE + 4 ≤ d) (hn : n + 1 < 1000000) (hk : k + 1 ≤ mc) (hw : w + 6 ≤ ms) {v0 : Nat} {v1 : Int32} {v2 : Int32} {c : mm_C} (hf : hO 0 ovU n (bX12_readNot_62 N eE  v0 v1 v2 c) Q) : mG Z qX12_readNot X k w mc ms Q (62, [(0, .ref v0), (1, .int v1), (2, .int v2)], [], (n, c)) := by
  unfold bX12_readNot_62 at hf
  refine mg_aload_n C rfl rfl ?_
  refine mg_bipush (v := 60) C rfl (by decide) ?_
  refine mh_cVI (M' := qX12_isMarked) C rfl rfl aX12_isMarked iX12_isMarked sX12_isMarked hRm (by omega) (by decide) (by omega) (by omega) rfl rfl rfl (Nat.le_of_ble_eq_true rfl) rfl hf (fun hs => wX12_isMarked (by omega) (by omega) hs) (fun r1 c2 hf => ?_)
  refine mh_if_eq C rfl hf (fun e_68 hf => ?_) (fun e_68 hf => ?_)
  · refine mg_bipush (v := (-25)) C rfl (by decide) ?_
    exact wX12_readNot_78 hE C hRm hd hde hn hk hw hf
  · refine mg_bipush (v := (-24)) C rfl (by decide) ?_
    refine mg_goto C rfl ?_
    exact wX12_readNot_78 hE C hRm hd hde hn hk hw hf
def bX12_readNot_39 (N : Nat) (eE : Nat → Int32 → mm_C → mR Unit)  (v0 : Nat) (v1 : Int32) (v2 : Int32) (c : mm_C) : mR Unit :=
  cV 12 v0 c (fX12_readSum N eE v0 v1 c) fun (_ : Unit) c1 => cV 12 v0 c1 (fX12_isMarked N v0 (60 : Int32) c1) fun r2 c3 => if ¬ r2 = 0 then (bX12_readNot_62 N eE  v0 v1 v2 c3) else (cV 12 v0 c3 (fX12_isMarked N v0 (61 : Int32) c3) fun r4 c5 => if r4 = 0 then (bX12_readNot_93 N eE  v0 v2 c5) else (bX12_readNot_62 N eE  v0 v1 v2 c5))
set_option maxRecDepth 100000 in
theorem wX12_readNot_39 {Z : mm_Z} {X : mm_T} {k w mc ms d n N : Nat} {Q : mm_O → mm_H → Prop} {eE : Nat → Int32 → mm_C → mR Unit} {dE : Nat} (hE : hE_X12_readExpression Z dE eE) (C : mm_Ok Z qX12_readNot X) (hRm : mt_R X = mm_rm d mc ms) (hd : 10 ≤ d) (hde : dE + 4 ≤ d) (hn : n + 1 < 1000000) (hk : k + 1 ≤ mc) (hw : w + 6 ≤ ms) {v0 : Nat} {v1 : Int32} {v2 : Int32} {c : mm_C} (hf : hO 0 ovU n (bX12_readNot_39 N eE  v0 v1 v2 c) Q) : mG Z qX12_readNot X k w mc ms Q (39, [(0, .ref v0), (1, .int v1), (2, .int v2)], [], (n, c)) := by
  unfold bX12_readNot_39 at hf
  refine mg_aload_n C rfl rfl ?_
  refine mg_iload_n C rfl rfl ?_
  refine mh_cVU (M' := qX12_readSum) C rfl rfl aX12_readSum iX12_readSum sX12_readSum hRm (by omega) (by decide) (by omega) (by omega) rfl rfl rfl (Nat.le_of_ble_eq_true rfl) rfl hf (fun hs => wX12_readSum hE (by omega) (by omega) (by omega) hs) (fun c1 hf => ?_)
  refine mg_aload_n C rfl rfl ?_
  refine mg_bipush (v := 60) C rfl (by decide) ?_
  refine mh_cVI (M' := qX12_isMarked) C rfl rfl aX12_isMarked iX12_isMarked sX12_isMarked hRm (by omega) (by decide) (by omega) (by omega) rfl rfl rfl (Nat.le_of_ble_eq_true rfl) rfl hf (fun hs => wX12_isMarked (by omega) (by omega) hs) (fun r2 c3 hf => ?_)
  refine mh_if_ne C rfl hf (fun e_50 hf => ?_) (fun e_50 hf => ?_)
  · exact wX12_readNot_62 hE C hRm hd hde hn hk hw hf
  · refine mg_aload_n C rfl rfl ?_
    refine mg_bipush (v := 61) C rfl (by decide) ?_
    refine mh_cVI (M' := qX12_isMarked) C rfl rfl aX12_isMarked iX12_isMarked sX12_isMarked hRm (by omega) (by decide) (by omega) (by omega) rfl rfl rfl (Nat.le_of_ble_eq_true rfl) rfl hf (fun hs => wX12_isMarked (by omega) (by omega) hs) (fun r4 c5 hf => ?_)
    refine mh_if_eq C rfl hf (fun e_59 hf => ?_) (fun e_59 hf => ?_)
    · refine mg_sub (lv' := [(0, .ref v0), (2, .int v2)]) (by simp) ?_
      exact wX12_readNot_93 hE C hRm hd hde hn hk hw hf
    · exact wX12_readNot_62 hE C hRm hd hde hn hk hw hf
def bX12_readNot_22 (N : Nat) (eE : Nat → Int32 → mm_C → mR Unit)  (k2 : Nat → Int32 → Int32 → mm_C → mR Unit) (v0 : Nat) (v1 : Int32) (v2 : Int32) (c : mm_C) : mR Unit :=
  Option.bind (gI c v0 12 23) fun x1 => if ¬ x1 = 0 then (k2 v0 v1 (v2 + 1) c) else (cV 12 v0 c (fX12_stepOn N v0 c) fun (_ : Unit) c2 => k2 v0 v1 (v2 + 1) c2)
set_option maxRecDepth 100000 in
theorem wX12_readNot_22 {Z : mm_Z} {X : mm_T} {k w mc ms d n N : Nat} {Q : mm_O → mm_H → Prop} {eE : Nat → Int32 → mm_C → mR Unit} {dE : Nat} (hE : hE_X12_readExpression Z dE eE) (C : mm_Ok Z qX12_readNot X) (hRm : mt_R X = mm_rm d mc ms) (hd : 10 ≤ d) (hde : dE + 4 ≤ d) (hn : n + 1 < 1000000) (hk : k + 1 ≤ mc) (hw : w + 6 ≤ ms) {k2 : Nat → Int32 → Int32 → mm_C → mR Unit} (hk2 : ∀ (v0 : Nat) (v1 : Int32) (v2 : Int32) (c : mm_C), hO 0 ovU n (k2 v0 v1 v2 c) Q → mG Z qX12_readNot X k w mc ms Q (2, [(0, .ref v0), (1, .int v1), (2, .int v2)], [], (n, c))) {v0 : Nat} {v1 : Int32} {v2 : Int32} {c : mm_C} (hf : hO 0 ovU n (bX12_readNot_22 N eE  k2 v0 v1 v2 c) Q) : mG Z qX12_readNot X k w mc ms Q (22, [(0, .ref v0), (1, .int v1), (2, .int v2)], [], (n, c)) := by
  unfold bX12_readNot_22 at hf
  refine mg_iinc (lv' := [(0, .ref v0), (1, .int v1), (2, .int (v2 + 1))]) C rfl (Nat.le_of_ble_eq_true rfl) rfl (show _ + Int32.ofInt 1 = _ + 1 by congr 1) rfl ?_
  refine mg_aload_n C rfl rfl ?_
  refine mh_gI C rfl rfl rfl (by decide) hf (fun x1 hf => ?_)
  refine mh_if_ne C rfl hf (fun e_29 hf => ?_) (fun e_29 hf => ?_)
  · exact hk2 _ _ _ _ hf
  · refine mg_aload_n C rfl rfl ?_
    refine mh_cVU (M' := qX12_stepOn) C rfl rfl aX12_stepOn iX12_stepOn sX12_stepOn hRm (by omega) (by decide) (by omega) (by omega) rfl rfl rfl (Nat.le_of_ble_eq_true rfl) rfl hf (fun hs => wX12_stepOn (by omega) (by omega) hs) (fun c2 hf => ?_)
    refine mg_goto C rfl ?_
    exact hk2 _ _ _ _ hf
def bX12_readNot_2 (N : Nat) (eE : Nat → Int32 → mm_C → mR Unit)  (k2 : Nat → Int32 → Int32 → mm_C → mR Unit) (v0 : Nat) (v1 : Int32) (v2 : Int32) (c : mm_C) : mR Unit :=
  cV 12 v0 c (fX12_is N v0 (1000000 + 5) c) fun r1 c2 => if r1 = 0 then (bX12_readNot_39 N eE  v0 v1 v2 c2) else (if ¬ v2 = (6 : Int32) then (bX12_readNot_22 N eE  k2 v0 v1 v2 c2) else (cV 12 v0 c2 (fX12_wrong N v0 (2 : Int32) c2) fun (_ : Unit) c3 => bX12_readNot_22 N eE  k2 v0 v1 v2 c3))
set_option maxRecDepth 100000 in
theorem wX12_readNot_2 {Z : mm_Z} {X : mm_T} {k w mc ms d n N : Nat} {Q : mm_O → mm_H → Prop} {eE : Nat → Int32 → mm_C → mR Unit} {dE : Nat} (hE : hE_X12_readExpression Z dE eE) (C : mm_Ok Z qX12_readNot X) (hRm : mt_R X = mm_rm d mc ms) (hd : 10 ≤ d) (hde : dE + 4 ≤ d) (hn : n + 1 < 1000000) (hk : k + 1 ≤ mc) (hw : w + 6 ≤ ms) {k2 : Nat → Int32 → Int32 → mm_C → mR Unit} (hk2 : ∀ (v0 : Nat) (v1 : Int32) (v2 : Int32) (c : mm_C), hO 0 ovU n (k2 v0 v1 v2 c) Q → mG Z qX12_readNot X k w mc ms Q (2, [(0, .ref v0), (1, .int v1), (2, .int v2)], [], (n, c))) {v0 : Nat} {v1 : Int32} {v2 : Int32} {c : mm_C} (hf : hO 0 ovU n (bX12_readNot_2 N eE  k2 v0 v1 v2 c) Q) : mG Z qX12_readNot X k w mc ms Q (2, [(0, .ref v0), (1, .int v1), (2, .int v2)], [], (n, c)) := by
  unfold bX12_readNot_2 at hf
  refine mg_aload_n C rfl rfl ?_
  refine mg_ldcS (i := 5) (tx := "not") C rfl (by decide) ?_
  refine mh_cVI (M' := qX12_is) C rfl rfl aX12_is iX12_is sX12_is hRm (by omega) (by decide) (by omega) (by omega) rfl rfl rfl (Nat.le_of_ble_eq_true rfl) rfl hf (fun hs => wX12_is (by omega) (by omega) hs) (fun r1 c2 hf => ?_)
  refine mh_if_eq C rfl hf (fun e_8 hf => ?_) (fun e_8 hf => ?_)
  · exact wX12_readNot_39 hE C hRm hd hde hn hk hw hf
  · refine mg_iload_n C rfl rfl ?_
    refine mg_bipush (v := 6) C rfl (by decide) ?_
    refine mh_icmp_ne C rfl hf (fun e_14 hf => ?_) (fun e_14 hf => ?_)
    · exact wX12_readNot_22 hE C hRm hd hde hn hk hw hk2 hf
    · refine mg_aload_n C rfl rfl ?_
      refine mg_iconst (v := 2) C rfl (by decide) ?_
      refine mh_cVU (M' := qX12_wrong) C rfl rfl aX12_wrong iX12_wrong sX12_wrong hRm (by omega) (by decide) (by omega) (by omega) rfl rfl rfl (Nat.le_of_ble_eq_true rfl) rfl hf (fun hs => wX12_wrong (by omega) (by omega) hs) (fun c3 hf => ?_)
      exact wX12_readNot_22 hE C hRm hd hde hn hk hw hk2 hf
def lX12_readNot_2 (N : Nat) (eE : Nat → Int32 → mm_C → mR Unit)  : Nat → Nat → Int32 → Int32 → mm_C → mR Unit
  | 0, _, _, _, _ => none
  | m + 1, v0, v1, v2, c => bX12_readNot_2 N eE  (lX12_readNot_2 N eE  m) v0 v1 v2 c
theorem WX12_readNot_2 {Z : mm_Z} {X : mm_T} {k w mc ms d n N : Nat} {Q : mm_O → mm_H → Prop} {eE : Nat → Int32 → mm_C → mR Unit} {dE : Nat} (hE : hE_X12_readExpression Z dE eE) (C : mm_Ok Z qX12_readNot X) (hRm : mt_R X = mm_rm d mc ms) (hd : 10 ≤ d) (hde : dE + 4 ≤ d) (hn : n + 1 < 1000000) (hk : k + 1 ≤ mc) (hw : w + 6 ≤ ms) : ∀ (m : Nat) {v0 : Nat} {v1 : Int32} {v2 : Int32} {c : mm_C} (hf : hO 0 ovU n (lX12_readNot_2 N eE  m v0 v1 v2 c) Q), mG Z qX12_readNot X k w mc ms Q (2, [(0, .ref v0), (1, .int v1), (2, .int v2)], [], (n, c)) := by
  intro m
  induction m with
  | zero => intro v0 v1 v2 c hf; exact absurd hf hO_none
  | succ m ih => intro v0 v1 v2 c hf; exact wX12_readNot_2 hE C hRm hd hde hn hk hw (fun v0 v1 v2 c hf => ih hf) hf
def bX12_readNot_0 (N : Nat) (eE : Nat → Int32 → mm_C → mR Unit)  (v0 : Nat) (v1 : Int32) (c : mm_C) : mR Unit :=
  lX12_readNot_2 N eE  N v0 v1 (0 : Int32) c
set_option maxRecDepth 100000 in
theorem wX12_readNot_0 {Z : mm_Z} {X : mm_T} {k w mc ms d n N : Nat} {Q : mm_O → mm_H → Prop} {eE : Nat → Int32 → mm_C → mR Unit} {dE : Nat} (hE : hE_X12_readExpression Z dE eE) (C : mm_Ok Z qX12_readNot X) (hRm : mt_R X = mm_rm d mc ms) (hd : 10 ≤ d) (hde : dE + 4 ≤ d) (hn : n + 1 < 1000000) (hk : k + 1 ≤ mc) (hw : w + 6 ≤ ms) {v0 : Nat} {v1 : Int32} {c : mm_C} (hf : hO 0 ovU n (bX12_readNot_0 N eE  v0 v1 c) Q) : mG Z qX12_readNot X k w mc ms Q (0, [(0, .ref v0), (1, .int v1)], [], (n, c)) := by
  unfold bX12_readNot_0 at hf
  refine mg_iconst (v := 0) C rfl (by decide) ?_
  refine mg_istore_n (lv' := [(0, .ref v0), (1, .int v1), (2, .int (0 : Int32))]) C rfl (Nat.le_of_ble_eq_true rfl) rfl ?_
  exact WX12_readNot_2 hE C hRm hd hde hn hk hw N hf
def fX12_readNot (N : Nat) (eE : Nat → Int32 → mm_C → mR Unit) (v0 : Nat) (v1 : Int32) (c : mm_C) : mR Unit := bX12_readNot_0 N eE v0 v1 c
set_option maxRecDepth 100000 in
theorem wX12_readNot {Z : mm_Z} {d n N : Nat} {eE : Nat → Int32 → mm_C → mR Unit} {dE : Nat} (hE : hE_X12_readExpression Z dE eE) (hd : 10 ≤ d) (hde : dE + 4 ≤ d) (hn : n + 1 < 1000000) {v0 : Nat} {v1 : Int32} {c : mm_C} (hs : (fX12_readNot N eE v0 v1 c).isSome = true) : mC Z qX12_readNot d 1 6 [.ref v0, .int v1] (n, c) (mP 0 ovU n (fX12_readNot N eE v0 v1 c)) := by
  refine mC_of gX12_readNot (by decide +kernel) (Nat.le_of_ble_eq_true rfl) fun X C hRm => ?_
  have hf := hO_mP 0 ovU n hs
  have hk : 0 + 1 ≤ 1 := Nat.le_of_ble_eq_true rfl
  have hw : 0 + 6 ≤ 6 := Nat.le_of_ble_eq_true rfl
  show mG _ _ _ _ _ _ _ _ (0, [(0, .ref v0), (1, .int v1)], [], (n, c))
  exact wX12_readNot_0 hE C hRm hd hde hn hk hw hf
def bX12_readAnd_5 (N : Nat) (eE : Nat → Int32 → mm_C → mR Unit)  (k5 : Nat → Int32 → mm_C → mR Unit) (v0 : Nat) (v1 : Int32) (c : mm_C) : mR Unit :=
  cV 12 v0 c (fX12_is N v0 (1000000 + 7) c) fun r1 c2 => if r1 = 0 then (some (.inl (), c2)) else (cV 12 v0 c2 (fX12_stepOn N v0 c2) fun (_ : Unit) c3 => cV 12 v0 c3 (fX12_readNot N eE v0 v1 c3) fun (_ : Unit) c4 => cV 12 v0 c4 (fX12_lay N v0 (-26 : Int32) c4) fun (_ : Unit) c5 => k5 v0 v1 c5)
set_option maxRecDepth 100000 in
theorem wX12_readAnd_5 {Z : mm_Z} {X : mm_T} {k w mc ms d n N : Nat} {Q : mm_O → mm_H → Prop} {eE : Nat → Int32 → mm_C → mR Unit} {dE : Nat} (hE : hE_X12_readExpression Z dE eE) (C : mm_Ok Z qX12_readAnd X) (hRm : mt_R X = mm_rm d mc ms) (hd : 11 ≤ d) (hde : dE + 5 ≤ d) (hn : n + 1 < 1000000) (hk : k + 1 ≤ mc) (hw : w + 6 ≤ ms) {k5 : Nat → Int32 → mm_C → mR Unit} (hk5 : ∀ (v0 : Nat) (v1 : Int32) (c : mm_C), hO 0 ovU n (k5 v0 v1 c) Q → mG Z qX12_readAnd X k w mc ms Q (5, [(0, .ref v0), (1, .int v1)], [], (n, c))) {v0 : Nat} {v1 : Int32} {c : mm_C} (hf : hO 0 ovU n (bX12_readAnd_5 N eE  k5 v0 v1 c) Q) : mG Z qX12_readAnd X k w mc ms Q (5, [(0, .ref v0), (1, .int v1)], [], (n, c)) := by
  unfold bX12_readAnd_5 at hf
  refine mg_aload_n C rfl rfl ?_
  refine mg_ldcS (i := 7) (tx := "and") C rfl (by decide) ?_
  refine mh_cVI (M' := qX12_is) C rfl rfl aX12_is iX12_is sX12_is hRm (by omega) (by decide) (by omega) (by omega) rfl rfl rfl (Nat.le_of_ble_eq_true rfl) rfl hf (fun hs => wX12_is (by omega) (by omega) hs) (fun r1 c2 hf => ?_)
  refine mh_if_eq C rfl hf (fun e_11 hf => ?_) (fun e_11 hf => ?_)
  · exact mh_return C rfl (by omega) (by omega) rfl hf
  · refine mg_aload_n C rfl rfl ?_
    refine mh_cVU (M' := qX12_stepOn) C rfl rfl aX12_stepOn iX12_stepOn sX12_stepOn hRm (by omega) (by decide) (by omega) (by omega) rfl rfl rfl (Nat.le_of_ble_eq_true rfl) rfl hf (fun hs => wX12_stepOn (by omega) (by omega) hs) (fun c3 hf => ?_)
    refine mg_aload_n C rfl rfl ?_
    refine mg_iload_n C rfl rfl ?_
    refine mh_cVU (M' := qX12_readNot) C rfl rfl aX12_readNot iX12_readNot sX12_readNot hRm (by omega) (by decide) (by omega) (by omega) rfl rfl rfl (Nat.le_of_ble_eq_true rfl) rfl hf (fun hs => wX12_readNot hE (by omega) (by omega) (by omega) hs) (fun c4 hf => ?_)
    refine mg_aload_n C rfl rfl ?_
    refine mg_bipush (v := (-26)) C rfl (by decide) ?_
    refine mh_cVU (M' := qX12_lay) C rfl rfl aX12_lay iX12_lay sX12_lay hRm (by omega) (by decide) (by omega) (by omega) rfl rfl rfl (Nat.le_of_ble_eq_true rfl) rfl hf (fun hs => wX12_lay (by omega) (by omega) hs) (fun c5 hf => ?_)
    refine mg_goto C rfl ?_
    exact hk5 _ _ _ hf
def lX12_readAnd_5 (N : Nat) (eE : Nat → Int32 → mm_C → mR Unit)  : Nat → Nat → Int32 → mm_C → mR Unit
  | 0, _, _, _ => none
  | m + 1, v0, v1, c => bX12_readAnd_5 N eE  (lX12_readAnd_5 N eE  m) v0 v1 c
theorem WX12_readAnd_5 {Z : mm_Z} {X : mm_T} {k w mc ms d n N : Nat} {Q : mm_O → mm_H → Prop} {eE : Nat → Int32 → mm_C → mR Unit} {dE : Nat} (hE : hE_X12_readExpression Z dE eE) (C : mm_Ok Z qX12_readAnd X) (hRm : mt_R X = mm_rm d mc ms) (hd : 11 ≤ d) (hde : dE + 5 ≤ d) (hn : n + 1 < 1000000) (hk : k + 1 ≤ mc) (hw : w + 6 ≤ ms) : ∀ (m : Nat) {v0 : Nat} {v1 : Int32} {c : mm_C} (hf : hO 0 ovU n (lX12_readAnd_5 N eE  m v0 v1 c) Q), mG Z qX12_readAnd X k w mc ms Q (5, [(0, .ref v0), (1, .int v1)], [], (n, c)) := by
  intro m
  induction m with
  | zero => intro v0 v1 c hf; exact absurd hf hO_none
  | succ m ih => intro v0 v1 c hf; exact wX12_readAnd_5 hE C hRm hd hde hn hk hw (fun v0 v1 c hf => ih hf) hf
def bX12_readAnd_0 (N : Nat) (eE : Nat → Int32 → mm_C → mR Unit)  (v0 : Nat) (v1 : Int32) (c : mm_C) : mR Unit :=
  cV 12 v0 c (fX12_readNot N eE v0 v1 c) fun (_ : Unit) c1 => lX12_readAnd_5 N eE  N v0 v1 c1
set_option maxRecDepth 100000 in
theorem wX12_readAnd_0 {Z : mm_Z} {X : mm_T} {k w mc ms d n N : Nat} {Q : mm_O → mm_H → Prop} {eE : Nat → Int32 → mm_C → mR Unit} {dE : Nat} (hE : hE_X12_readExpression Z dE eE) (C : mm_Ok Z qX12_readAnd X) (hRm : mt_R X = mm_rm d mc ms) (hd : 11 ≤ d) (hde : dE + 5 ≤ d) (hn : n + 1 < 1000000) (hk : k + 1 ≤ mc) (hw : w + 6 ≤ ms) {v0 : Nat} {v1 : Int32} {c : mm_C} (hf : hO 0 ovU n (bX12_readAnd_0 N eE  v0 v1 c) Q) : mG Z qX12_readAnd X k w mc ms Q (0, [(0, .ref v0), (1, .int v1)], [], (n, c)) := by
  unfold bX12_readAnd_0 at hf
  refine mg_aload_n C rfl rfl ?_
  refine mg_iload_n C rfl rfl ?_
  refine mh_cVU (M' := qX12_readNot) C rfl rfl aX12_readNot iX12_readNot sX12_readNot hRm (by omega) (by decide) (by omega) (by omega) rfl rfl rfl (Nat.le_of_ble_eq_true rfl) rfl hf (fun hs => wX12_readNot hE (by omega) (by omega) (by omega) hs) (fun c1 hf => ?_)
  exact WX12_readAnd_5 hE C hRm hd hde hn hk hw N hf
def fX12_readAnd (N : Nat) (eE : Nat → Int32 → mm_C → mR Unit) (v0 : Nat) (v1 : Int32) (c : mm_C) : mR Unit := bX12_readAnd_0 N eE v0 v1 c
set_option maxRecDepth 100000 in
theorem wX12_readAnd {Z : mm_Z} {d n N : Nat} {eE : Nat → Int32 → mm_C → mR Unit} {dE : Nat} (hE : hE_X12_readExpression Z dE eE) (hd : 11 ≤ d) (hde : dE + 5 ≤ d) (hn : n + 1 < 1000000) {v0 : Nat} {v1 : Int32} {c : mm_C} (hs : (fX12_readAnd N eE v0 v1 c).isSome = true) : mC Z qX12_readAnd d 1 6 [.ref v0, .int v1] (n, c) (mP 0 ovU n (fX12_readAnd N eE v0 v1 c)) := by
  refine mC_of gX12_readAnd (by decide +kernel) (Nat.le_of_ble_eq_true rfl) fun X C hRm => ?_
  have hf := hO_mP 0 ovU n hs
  have hk : 0 + 1 ≤ 1 := Nat.le_of_ble_eq_true rfl
  have hw : 0 + 6 ≤ 6 := Nat.le_of_ble_eq_true rfl
  show mG _ _ _ _ _ _ _ _ (0, [(0, .ref v0), (1, .int v1)], [], (n, c))
  exact wX12_readAnd_0 hE C hRm hd hde hn hk hw hf
def bX12_readExpression_67 (N : Nat) (eE : Nat → Int32 → mm_C → mR Unit)  (k67 : Nat → Int32 → mm_C → mR Unit) (v0 : Nat) (v1 : Int32) (c : mm_C) : mR Unit :=
  cV 12 v0 c (fX12_is N v0 (1000000 + 8) c) fun r1 c2 => if r1 = 0 then (some (.inl (), c2)) else (cV 12 v0 c2 (fX12_stepOn N v0 c2) fun (_ : Unit) c3 => cV 12 v0 c3 (fX12_readAnd N eE v0 v1 c3) fun (_ : Unit) c4 => cV 12 v0 c4 (fX12_lay N v0 (-27 : Int32) c4) fun (_ : Unit) c5 => k67 v0 v1 c5)
set_option maxRecDepth 100000 in
theorem wX12_readExpression_67 {Z : mm_Z} {X : mm_T} {k w mc ms d n N : Nat} {Q : mm_O → mm_H → Prop} {eE : Nat → Int32 → mm_C → mR Unit} {dE : Nat} (hE : hE_X12_readExpression Z dE eE) (C : mm_Ok Z qX12_readExpression X) (hRm : mt_R X = mm_rm d mc ms) (hd : 12 ≤ d) (hde : dE + 6 ≤ d) (hn : n + 1 < 1000000) (hk : k + 1 ≤ mc) (hw : w + 6 ≤ ms) {k67 : Nat → Int32 → mm_C → mR Unit} (hk67 : ∀ (v0 : Nat) (v1 : Int32) (c : mm_C), hO 0 ovU n (k67 v0 v1 c) Q → mG Z qX12_readExpression X k w mc ms Q (67, [(0, .ref v0), (1, .int v1)], [], (n, c))) {v0 : Nat} {v1 : Int32} {c : mm_C} (hf : hO 0 ovU n (bX12_readExpression_67 N eE  k67 v0 v1 c) Q) : mG Z qX12_readExpression X k w mc ms Q (67, [(0, .ref v0), (1, .int v1)], [], (n, c)) := by
  unfold bX12_readExpression_67 at hf
  refine mg_aload_n C rfl rfl ?_
  refine mg_ldcS (i := 8) (tx := "or") C rfl (by decide) ?_
  refine mh_cVI (M' := qX12_is) C rfl rfl aX12_is iX12_is sX12_is hRm (by omega) (by decide) (by omega) (by omega) rfl rfl rfl (Nat.le_of_ble_eq_true rfl) rfl hf (fun hs => wX12_is (by omega) (by omega) hs) (fun r1 c2 hf => ?_)
  refine mh_if_eq C rfl hf (fun e_73 hf => ?_) (fun e_73 hf => ?_)
  · exact mh_return C rfl (by omega) (by omega) rfl hf
  · refine mg_aload_n C rfl rfl ?_
    refine mh_cVU (M' := qX12_stepOn) C rfl rfl aX12_stepOn iX12_stepOn sX12_stepOn hRm (by omega) (by decide) (by omega) (by omega) rfl rfl rfl (Nat.le_of_ble_eq_true rfl) rfl hf (fun hs => wX12_stepOn (by omega) (by omega) hs) (fun c3 hf => ?_)
    refine mg_aload_n C rfl rfl ?_
    refine mg_iload_n C rfl rfl ?_
    refine mh_cVU (M' := qX12_readAnd) C rfl rfl aX12_readAnd iX12_readAnd sX12_readAnd hRm (by omega) (by decide) (by omega) (by omega) rfl rfl rfl (Nat.le_of_ble_eq_true rfl) rfl hf (fun hs => wX12_readAnd hE (by omega) (by omega) (by omega) hs) (fun c4 hf => ?_)
    refine mg_aload_n C rfl rfl ?_
    refine mg_bipush (v := (-27)) C rfl (by decide) ?_
    refine mh_cVU (M' := qX12_lay) C rfl rfl aX12_lay iX12_lay sX12_lay hRm (by omega) (by decide) (by omega) (by omega) rfl rfl rfl (Nat.le_of_ble_eq_true rfl) rfl hf (fun hs => wX12_lay (by omega) (by omega) hs) (fun c5 hf => ?_)
    refine mg_goto C rfl ?_
    exact hk67 _ _ _ hf
def lX12_readExpression_67 (N : Nat) (eE : Nat → Int32 → mm_C → mR Unit)  : Nat → Nat → Int32 → mm_C → mR Unit
  | 0, _, _, _ => none
  | m + 1, v0, v1, c => bX12_readExpression_67 N eE  (lX12_readExpression_67 N eE  m) v0 v1 c
theorem WX12_readExpression_67 {Z : mm_Z} {X : mm_T} {k w mc ms d n N : Nat} {Q : mm_O → mm_H → Prop} {eE : Nat → Int32 → mm_C → mR Unit} {dE : Nat} (hE : hE_X12_readExpression Z dE eE) (C : mm_Ok Z qX12_readExpression X) (hRm : mt_R X = mm_rm d mc ms) (hd : 12 ≤ d) (hde : dE + 6 ≤ d) (hn : n + 1 < 1000000) (hk : k + 1 ≤ mc) (hw : w + 6 ≤ ms) : ∀ (m : Nat) {v0 : Nat} {v1 : Int32} {c : mm_C} (hf : hO 0 ovU n (lX12_readExpression_67 N eE  m v0 v1 c) Q), mG Z qX12_readExpression X k w mc ms Q (67, [(0, .ref v0), (1, .int v1)], [], (n, c)) := by
  intro m
  induction m with
  | zero => intro v0 v1 c hf; exact absurd hf hO_none
  | succ m ih => intro v0 v1 c hf; exact wX12_readExpression_67 hE C hRm hd hde hn hk hw (fun v0 v1 c hf => ih hf) hf
def bX12_readExpression_62 (N : Nat) (eE : Nat → Int32 → mm_C → mR Unit)  (v0 : Nat) (v1 : Int32) (c : mm_C) : mR Unit :=
  cV 12 v0 c (fX12_readAnd N eE v0 v1 c) fun (_ : Unit) c1 => lX12_readExpression_67 N eE  N v0 v1 c1
set_option maxRecDepth 100000 in
theorem wX12_readExpression_62 {Z : mm_Z} {X : mm_T} {k w mc ms d n N : Nat} {Q : mm_O → mm_H → Prop} {eE : Nat → Int32 → mm_C → mR Unit} {dE : Nat} (hE : hE_X12_readExpression Z dE eE) (C : mm_Ok Z qX12_readExpression X) (hRm : mt_R X = mm_rm d mc ms) (hd : 12 ≤ d) (hde : dE + 6 ≤ d) (hn : n + 1 < 1000000) (hk : k + 1 ≤ mc) (hw : w + 6 ≤ ms) {v0 : Nat} {v1 : Int32} {c : mm_C} (hf : hO 0 ovU n (bX12_readExpression_62 N eE  v0 v1 c) Q) : mG Z qX12_readExpression X k w mc ms Q (62, [(0, .ref v0), (1, .int v1)], [], (n, c)) := by
  unfold bX12_readExpression_62 at hf
  refine mg_aload_n C rfl rfl ?_
  refine mg_iload_n C rfl rfl ?_
  refine mh_cVU (M' := qX12_readAnd) C rfl rfl aX12_readAnd iX12_readAnd sX12_readAnd hRm (by omega) (by decide) (by omega) (by omega) rfl rfl rfl (Nat.le_of_ble_eq_true rfl) rfl hf (fun hs => wX12_readAnd hE (by omega) (by omega) (by omega) hs) (fun c1 hf => ?_)
  exact WX12_readExpression_67 hE C hRm hd hde hn hk hw N hf
def bX12_readExpression_38 (N : Nat) (eE : Nat → Int32 → mm_C → mR Unit)  (v0 : Nat) (v1 : Int32) (s0 : Int32) (c : mm_C) : mR Unit :=
  if ¬ s0 = 0 then (if ¬ v1 = (6 : Int32) then (bX12_readExpression_62 N eE  v0 v1 c) else (cV 12 v0 c (fX12_wrong N v0 (2 : Int32) c) fun (_ : Unit) c1 => bX12_readExpression_62 N eE  v0 v1 c1)) else (cV 12 v0 c (fX12_wrong N v0 (1 : Int32) c) fun (_ : Unit) c2 => bX12_readExpression_62 N eE  v0 v1 c2)
set_option maxRecDepth 100000 in
theorem wX12_readExpression_38 {Z : mm_Z} {X : mm_T} {k w mc ms d n N : Nat} {Q : mm_O → mm_H → Prop} {eE : Nat → Int32 → mm_C → mR Unit} {dE : Nat} (hE : hE_X12_readExpression Z dE eE) (C : mm_Ok Z qX12_readExpression X) (hRm : mt_R X = mm_rm d mc ms) (hd : 12 ≤ d) (hde : dE + 6 ≤ d) (hn : n + 1 < 1000000) (hk : k + 1 ≤ mc) (hw : w + 6 ≤ ms) {v0 : Nat} {v1 : Int32} {s0 : Int32} {c : mm_C} (hf : hO 0 ovU n (bX12_readExpression_38 N eE  v0 v1 s0 c) Q) : mG Z qX12_readExpression X k w mc ms Q (38, [(0, .ref v0), (1, .int v1)], [.int s0], (n, c)) := by
  unfold bX12_readExpression_38 at hf
  refine mg_istore_n (lv' := [(0, .ref v0), (1, .int v1), (2, .int s0)]) C rfl (Nat.le_of_ble_eq_true rfl) rfl ?_
  refine mg_iload_n C rfl rfl ?_
  refine mh_if_ne C rfl hf (fun e_40 hf => ?_) (fun e_40 hf => ?_)
  · refine mg_iload_n C rfl rfl ?_
    refine mg_bipush (v := 6) C rfl (by decide) ?_
    refine mh_icmp_ne C rfl hf (fun e_54 hf => ?_) (fun e_54 hf => ?_)
    · refine mg_sub (lv' := [(0, .ref v0), (1, .int v1)]) (by simp) ?_
      exact wX12_readExpression_62 hE C hRm hd hde hn hk hw hf
    · refine mg_aload_n C rfl rfl ?_
      refine mg_iconst (v := 2) C rfl (by decide) ?_
      refine mh_cVU (M' := qX12_wrong) C rfl rfl aX12_wrong iX12_wrong sX12_wrong hRm (by omega) (by decide) (by omega) (by omega) rfl rfl rfl (Nat.le_of_ble_eq_true rfl) rfl hf (fun hs => wX12_wrong (by omega) (by omega) hs) (fun c1 hf => ?_)
      refine mg_sub (lv' := [(0, .ref v0), (1, .int v1)]) (by simp) ?_
      exact wX12_readExpression_62 hE C hRm hd hde hn hk hw hf
  · refine mg_aload_n C rfl rfl ?_
    refine mg_iconst (v := 1) C rfl (by decide) ?_
    refine mh_cVU (M' := qX12_wrong) C rfl rfl aX12_wrong iX12_wrong sX12_wrong hRm (by omega) (by decide) (by omega) (by omega) rfl rfl rfl (Nat.le_of_ble_eq_true rfl) rfl hf (fun hs => wX12_wrong (by omega) (by omega) hs) (fun c2 hf => ?_)
    refine mg_goto C rfl ?_
    refine mg_sub (lv' := [(0, .ref v0), (1, .int v1)]) (by simp) ?_
    exact wX12_readExpression_62 hE C hRm hd hde hn hk hw hf
def bX12_readExpression_33 (N : Nat) (eE : Nat → Int32 → mm_C → mR Unit)  (v0 : Nat) (v1 : Int32) (c : mm_C) : mR Unit :=
  bX12_readExpression_38 N eE  v0 v1 (1 : Int32) c
set_option maxRecDepth 100000 in
theorem wX12_readExpression_33 {Z : mm_Z} {X : mm_T} {k w mc ms d n N : Nat} {Q : mm_O → mm_H → Prop} {eE : Nat → Int32 → mm_C → mR Unit} {dE : Nat} (hE : hE_X12_readExpression Z dE eE) (C : mm_Ok Z qX12_readExpression X) (hRm : mt_R X = mm_rm d mc ms) (hd : 12 ≤ d) (hde : dE + 6 ≤ d) (hn : n + 1 < 1000000) (hk : k + 1 ≤ mc) (hw : w + 6 ≤ ms) {v0 : Nat} {v1 : Int32} {c : mm_C} (hf : hO 0 ovU n (bX12_readExpression_33 N eE  v0 v1 c) Q) : mG Z qX12_readExpression X k w mc ms Q (33, [(0, .ref v0), (1, .int v1)], [], (n, c)) := by
  unfold bX12_readExpression_33 at hf
  refine mg_iconst (v := 1) C rfl (by decide) ?_
  refine mg_goto C rfl ?_
  exact wX12_readExpression_38 hE C hRm hd hde hn hk hw hf
def bX12_readExpression_0 (N : Nat) (eE : Nat → Int32 → mm_C → mR Unit)  (v0 : Nat) (v1 : Int32) (c : mm_C) : mR Unit :=
  Option.bind (gI c v0 12 23) fun x1 => if x1 = 0 then (Option.bind (gI c v0 12 19) fun x2 => if x2 = (2 : Int32) then (bX12_readExpression_33 N eE  v0 v1 c) else (Option.bind (gI c v0 12 19) fun x3 => if x3 = (1 : Int32) then (bX12_readExpression_33 N eE  v0 v1 c) else (cV 12 v0 c (fX12_isMarked N v0 (40 : Int32) c) fun r4 c5 => if r4 = 0 then (bX12_readExpression_38 N eE  v0 v1 (0 : Int32) c5) else (bX12_readExpression_33 N eE  v0 v1 c5)))) else (some (.inl (), c))
set_option maxRecDepth 100000 in
theorem wX12_readExpression_0 {Z : mm_Z} {X : mm_T} {k w mc ms d n N : Nat} {Q : mm_O → mm_H → Prop} {eE : Nat → Int32 → mm_C → mR Unit} {dE : Nat} (hE : hE_X12_readExpression Z dE eE) (C : mm_Ok Z qX12_readExpression X) (hRm : mt_R X = mm_rm d mc ms) (hd : 12 ≤ d) (hde : dE + 6 ≤ d) (hn : n + 1 < 1000000) (hk : k + 1 ≤ mc) (hw : w + 6 ≤ ms) {v0 : Nat} {v1 : Int32} {c : mm_C} (hf : hO 0 ovU n (bX12_readExpression_0 N eE  v0 v1 c) Q) : mG Z qX12_readExpression X k w mc ms Q (0, [(0, .ref v0), (1, .int v1)], [], (n, c)) := by
  unfold bX12_readExpression_0 at hf
  refine mg_aload_n C rfl rfl ?_
  refine mh_gI C rfl rfl rfl (by decide) hf (fun x1 hf => ?_)
  refine mh_if_eq C rfl hf (fun e_4 hf => ?_) (fun e_4 hf => ?_)
  · refine mg_aload_n C rfl rfl ?_
    refine mh_gI C rfl rfl rfl (by decide) hf (fun x2 hf => ?_)
    refine mg_iconst (v := 2) C rfl (by decide) ?_
    refine mh_icmp_eq C rfl hf (fun e_13 hf => ?_) (fun e_13 hf => ?_)
    · exact wX12_readExpression_33 hE C hRm hd hde hn hk hw hf
    · refine mg_aload_n C rfl rfl ?_
      refine mh_gI C rfl rfl rfl (by decide) hf (fun x3 hf => ?_)
      refine mg_iconst (v := 1) C rfl (by decide) ?_
      refine mh_icmp_eq C rfl hf (fun e_21 hf => ?_) (fun e_21 hf => ?_)
      · exact wX12_readExpression_33 hE C hRm hd hde hn hk hw hf
      · refine mg_aload_n C rfl rfl ?_
        refine mg_bipush (v := 40) C rfl (by decide) ?_
        refine mh_cVI (M' := qX12_isMarked) C rfl rfl aX12_isMarked iX12_isMarked sX12_isMarked hRm (by omega) (by decide) (by omega) (by omega) rfl rfl rfl (Nat.le_of_ble_eq_true rfl) rfl hf (fun hs => wX12_isMarked (by omega) (by omega) hs) (fun r4 c5 hf => ?_)
        refine mh_if_eq C rfl hf (fun e_30 hf => ?_) (fun e_30 hf => ?_)
        · refine mg_iconst (v := 0) C rfl (by decide) ?_
          exact wX12_readExpression_38 hE C hRm hd hde hn hk hw hf
        · exact wX12_readExpression_33 hE C hRm hd hde hn hk hw hf
  · exact mh_return C rfl (by omega) (by omega) rfl hf
def fg_X12_readExpression (N : Nat) (eE : Nat → Int32 → mm_C → mR Unit) (v0 : Nat) (v1 : Int32) (c : mm_C) : mR Unit := bX12_readExpression_0 N eE v0 v1 c
set_option maxRecDepth 100000 in
theorem wg_X12_readExpression {Z : mm_Z} {d n N : Nat} {eE : Nat → Int32 → mm_C → mR Unit} {dE : Nat} (hE : hE_X12_readExpression Z dE eE) (hd : 12 ≤ d) (hde : dE + 6 ≤ d) (hn : n + 1 < 1000000) {v0 : Nat} {v1 : Int32} {c : mm_C} (hs : (fg_X12_readExpression N eE v0 v1 c).isSome = true) : mC Z qX12_readExpression d 1 6 [.ref v0, .int v1] (n, c) (mP 0 ovU n (fg_X12_readExpression N eE v0 v1 c)) := by
  refine mC_of gX12_readExpression (by decide +kernel) (Nat.le_of_ble_eq_true rfl) fun X C hRm => ?_
  have hf := hO_mP 0 ovU n hs
  have hk : 0 + 1 ≤ 1 := Nat.le_of_ble_eq_true rfl
  have hw : 0 + 6 ≤ 6 := Nat.le_of_ble_eq_true rfl
  show mG _ _ _ _ _ _ _ _ (0, [(0, .ref v0), (1, .int v1)], [], (n, c))
  exact wX12_readExpression_0 hE C hRm hd hde hn hk hw hf
def fX12_readExpression (N : Nat) : Nat → Nat → Int32 → mm_C → mR Unit
  | 0, _, _, _ => none
  | r + 1, v0, v1, c => fg_X12_readExpression N (fX12_readExpression N r) v0 v1 c
theorem hE_X12_readExpression_of {Z : mm_Z} {N : Nat} : ∀ r : Nat, hE_X12_readExpression Z (12 + 6 * r) (fX12_readExpression N r)
  | 0 => fun d hd n hn _ _ c hs => absurd hs (by simp [fX12_readExpression])
  | r + 1 => fun d hd n hn _ _ c hs => wg_X12_readExpression (hE_X12_readExpression_of r) (by omega) (by omega) hn hs
theorem wX12_readExpression {Z : mm_Z} {d n N : Nat} (hd : 84 ≤ d) (hn : n + 1 < 1000000) {v0 : Nat} {v1 : Int32} {c : mm_C} (hs : (fX12_readExpression N 12 v0 v1 c).isSome = true) : mC Z qX12_readExpression d 1 6 [.ref v0, .int v1] (n, c) (mP 0 ovU n (fX12_readExpression N 12 v0 v1 c)) := hE_X12_readExpression_of 12 d hd n hn _ _ c hs
def bX12_another_18 (N : Nat)  (v0 : Nat) (c : mm_C) : mR Int32 :=
  Option.bind (gI c v0 12 23) fun x1 => if x1 = 0 then (cV 12 v0 c (fX12_stepOn N v0 c) fun (_ : Unit) c2 => rZ (1 : Int32) c2) else (rZ (0 : Int32) c)
set_option maxRecDepth 100000 in
theorem wX12_another_18 {Z : mm_Z} {X : mm_T} {k w mc ms d n N : Nat} {Q : mm_O → mm_H → Prop} (C : mm_Ok Z qX12_another X) (hRm : mt_R X = mm_rm d mc ms) (hd : 3 ≤ d) (hn : n + 1 < 1000000) (hk : k + 1 ≤ mc) (hw : w + 6 ≤ ms) {v0 : Nat} {c : mm_C} (hf : hO 0 ovI n (bX12_another_18 N  v0 c) Q) : mG Z qX12_another X k w mc ms Q (18, [(0, .ref v0)], [], (n, c)) := by
  unfold bX12_another_18 at hf
  refine mg_aload_n C rfl rfl ?_
  refine mh_gI C rfl rfl rfl (by decide) hf (fun x1 hf => ?_)
  refine mh_if_eq C rfl hf (fun e_22 hf => ?_) (fun e_22 hf => ?_)
  · refine mg_aload_n C rfl rfl ?_
    refine mh_cVU (M' := qX12_stepOn) C rfl rfl aX12_stepOn iX12_stepOn sX12_stepOn hRm (by omega) (by decide) (by omega) (by omega) rfl rfl rfl (Nat.le_of_ble_eq_true rfl) rfl hf (fun hs => wX12_stepOn (by omega) (by omega) hs) (fun c2 hf => ?_)
    refine mg_iconst (v := 1) C rfl (by decide) ?_
    exact mh_zreturn C rfl (by omega) (by omega) rfl hf
  · refine mg_iconst (v := 0) C rfl (by decide) ?_
    exact mh_zreturn C rfl (by omega) (by omega) rfl hf
def bX12_another_0 (N : Nat)  (v0 : Nat) (v1 : Int32) (v2 : Int32) (c : mm_C) : mR Int32 :=
  Option.bind (gR c v0 12 3) fun x1 => Option.bind (aI c x1 ((8 : Int32) + v1)) fun x2 => if ¬ x2 = v2 then (bX12_another_18 N  v0 c) else (cV 12 v0 c (fX12_wrong N v0 (2 : Int32) c) fun (_ : Unit) c3 => bX12_another_18 N  v0 c3)
set_option maxRecDepth 100000 in
theorem wX12_another_0 {Z : mm_Z} {X : mm_T} {k w mc ms d n N : Nat} {Q : mm_O → mm_H → Prop} (C : mm_Ok Z qX12_another X) (hRm : mt_R X = mm_rm d mc ms) (hd : 3 ≤ d) (hn : n + 1 < 1000000) (hk : k + 1 ≤ mc) (hw : w + 6 ≤ ms) {v0 : Nat} {v1 : Int32} {v2 : Int32} {c : mm_C} (hf : hO 0 ovI n (bX12_another_0 N  v0 v1 v2 c) Q) : mG Z qX12_another X k w mc ms Q (0, [(0, .ref v0), (1, .int v1), (2, .int v2)], [], (n, c)) := by
  unfold bX12_another_0 at hf
  refine mg_aload_n C rfl rfl ?_
  refine mh_gR C rfl rfl rfl (by decide) hf (fun x1 hf => ?_)
  refine mg_bipush (v := 8) C rfl (by decide) ?_
  refine mg_iload_n C rfl rfl ?_
  refine mg_iadd C rfl ?_
  refine mh_aI C rfl hf (fun x2 hf => ?_)
  refine mg_iload_n C rfl rfl ?_
  refine mh_icmp_ne C rfl hf (fun e_10 hf => ?_) (fun e_10 hf => ?_)
  · refine mg_sub (lv' := [(0, .ref v0)]) (by simp) ?_
    exact wX12_another_18 C hRm hd hn hk hw hf
  · refine mg_aload_n C rfl rfl ?_
    refine mg_iconst (v := 2) C rfl (by decide) ?_
    refine mh_cVU (M' := qX12_wrong) C rfl rfl aX12_wrong iX12_wrong sX12_wrong hRm (by omega) (by decide) (by omega) (by omega) rfl rfl rfl (Nat.le_of_ble_eq_true rfl) rfl hf (fun hs => wX12_wrong (by omega) (by omega) hs) (fun c3 hf => ?_)
    refine mg_sub (lv' := [(0, .ref v0)]) (by simp) ?_
    exact wX12_another_18 C hRm hd hn hk hw hf
def fX12_another (N : Nat) (v0 : Nat) (v1 : Int32) (v2 : Int32) (c : mm_C) : mR Int32 := bX12_another_0 N v0 v1 v2 c
set_option maxRecDepth 100000 in
theorem wX12_another {Z : mm_Z} {d n N : Nat} (hd : 3 ≤ d) (hn : n + 1 < 1000000) {v0 : Nat} {v1 : Int32} {v2 : Int32} {c : mm_C} (hs : (fX12_another N v0 v1 v2 c).isSome = true) : mC Z qX12_another d 1 6 [.ref v0, .int v1, .int v2] (n, c) (mP 0 ovI n (fX12_another N v0 v1 v2 c)) := by
  refine mC_of gX12_another (by decide +kernel) (Nat.le_of_ble_eq_true rfl) fun X C hRm => ?_
  have hf := hO_mP 0 ovI n hs
  have hk : 0 + 1 ≤ 1 := Nat.le_of_ble_eq_true rfl
  have hw : 0 + 6 ≤ 6 := Nat.le_of_ble_eq_true rfl
  show mG _ _ _ _ _ _ _ _ (0, [(0, .ref v0), (1, .int v1), (2, .int v2)], [], (n, c))
  exact wX12_another_0 C hRm hd hn hk hw hf
def bX12_readSky_74 (N : Nat)  (v0 : Nat) (c : mm_C) : mR Unit :=
  Option.bind (gR c v0 12 3) fun x1 => Option.bind (aI c x1 (13 : Int32)) fun x2 => Option.bind (tI c x1 (13 : Int32) (x2 + (1 : Int32))) fun c3 => some (.inl (), c3)
set_option maxRecDepth 100000 in
theorem wX12_readSky_74 {Z : mm_Z} {X : mm_T} {k w mc ms d n N : Nat} {Q : mm_O → mm_H → Prop} (C : mm_Ok Z qX12_readSky X) (hRm : mt_R X = mm_rm d mc ms) (hd : 4 ≤ d) (hn : n + 1 < 1000000) (hk : k + 1 ≤ mc) (hw : w + 6 ≤ ms) {v0 : Nat} {c : mm_C} (hf : hO 0 ovU n (bX12_readSky_74 N  v0 c) Q) : mG Z qX12_readSky X k w mc ms Q (74, [(0, .ref v0)], [], (n, c)) := by
  unfold bX12_readSky_74 at hf
  refine mg_aload_n C rfl rfl ?_
  refine mh_gR C rfl rfl rfl (by decide) hf (fun x1 hf => ?_)
  refine mg_bipush (v := 13) C rfl (by decide) ?_
  refine mg_dup2 C rfl rfl rfl ?_
  refine mh_aI C rfl hf (fun x2 hf => ?_)
  refine mg_iconst (v := 1) C rfl (by decide) ?_
  refine mg_iadd C rfl ?_
  refine mh_tI C rfl hf (fun c3 hf => ?_)
  exact mh_return C rfl (by omega) (by omega) rfl hf
def bX12_readSky_22 (N : Nat)  (k22 : Nat → Int32 → Int32 → Int32 → mm_C → mR Unit) (v0 : Nat) (v1 : Int32) (v2 : Int32) (v3 : Int32) (c : mm_C) : mR Unit :=
  if v2 ≤ v3 then (bX12_readSky_74 N  v0 c) else (Option.bind (gR c v0 12 3) fun x1 => Option.bind (aI c x1 (15 : Int32)) fun x2 => if (480 : Int32) ≤ x2 then (bX12_readSky_74 N  v0 c) else (Option.bind (gR c v0 12 10) fun x3 => Option.bind (gR c v0 12 3) fun x4 => Option.bind (aI c x4 (15 : Int32)) fun x5 => Option.bind (tI c x3 ((480 : Int32) + x5) v1) fun c6 => Option.bind (gR c6 v0 12 3) fun x7 => Option.bind (aI c6 x7 (15 : Int32)) fun x8 => Option.bind (tI c6 x7 (15 : Int32) (x8 + (1 : Int32))) fun c9 => k22 v0 v1 v2 (v3 + 1) c9))
set_option maxRecDepth 100000 in
theorem wX12_readSky_22 {Z : mm_Z} {X : mm_T} {k w mc ms d n N : Nat} {Q : mm_O → mm_H → Prop} (C : mm_Ok Z qX12_readSky X) (hRm : mt_R X = mm_rm d mc ms) (hd : 4 ≤ d) (hn : n + 1 < 1000000) (hk : k + 1 ≤ mc) (hw : w + 6 ≤ ms) {k22 : Nat → Int32 → Int32 → Int32 → mm_C → mR Unit} (hk22 : ∀ (v0 : Nat) (v1 : Int32) (v2 : Int32) (v3 : Int32) (c : mm_C), hO 0 ovU n (k22 v0 v1 v2 v3 c) Q → mG Z qX12_readSky X k w mc ms Q (22, [(0, .ref v0), (1, .int v1), (2, .int v2), (3, .int v3)], [], (n, c))) {v0 : Nat} {v1 : Int32} {v2 : Int32} {v3 : Int32} {c : mm_C} (hf : hO 0 ovU n (bX12_readSky_22 N  k22 v0 v1 v2 v3 c) Q) : mG Z qX12_readSky X k w mc ms Q (22, [(0, .ref v0), (1, .int v1), (2, .int v2), (3, .int v3)], [], (n, c)) := by
  unfold bX12_readSky_22 at hf
  refine mg_iload_n C rfl rfl ?_
  refine mg_iload_n C rfl rfl ?_
  refine mh_icmp_ge C rfl hf (fun e_24 hf => ?_) (fun e_24 hf => ?_)
  · refine mg_sub (lv' := [(0, .ref v0)]) (by simp) ?_
    exact wX12_readSky_74 C hRm hd hn hk hw hf
  · refine mg_aload_n C rfl rfl ?_
    refine mh_gR C rfl rfl rfl (by decide) hf (fun x1 hf => ?_)
    refine mg_bipush (v := 15) C rfl (by decide) ?_
    refine mh_aI C rfl hf (fun x2 hf => ?_)
    refine mg_sipush (v := 480) C rfl (by decide) ?_
    refine mh_icmp_ge C rfl hf (fun e_37 hf => ?_) (fun e_37 hf => ?_)
    · refine mg_sub (lv' := [(0, .ref v0)]) (by simp) ?_
      exact wX12_readSky_74 C hRm hd hn hk hw hf
    · refine mg_aload_n C rfl rfl ?_
      refine mh_gR C rfl rfl rfl (by decide) hf (fun x3 hf => ?_)
      refine mg_sipush (v := 480) C rfl (by decide) ?_
      refine mg_aload_n C rfl rfl ?_
      refine mh_gR C rfl rfl rfl (by decide) hf (fun x4 hf => ?_)
      refine mg_bipush (v := 15) C rfl (by decide) ?_
      refine mh_aI C rfl hf (fun x5 hf => ?_)
      refine mg_iadd C rfl ?_
      refine mg_iload_n C rfl rfl ?_
      refine mh_tI C rfl hf (fun c6 hf => ?_)
      refine mg_aload_n C rfl rfl ?_
      refine mh_gR C rfl rfl rfl (by decide) hf (fun x7 hf => ?_)
      refine mg_bipush (v := 15) C rfl (by decide) ?_
      refine mg_dup2 C rfl rfl rfl ?_
      refine mh_aI C rfl hf (fun x8 hf => ?_)
      refine mg_iconst (v := 1) C rfl (by decide) ?_
      refine mg_iadd C rfl ?_
      refine mh_tI C rfl hf (fun c9 hf => ?_)
      refine mg_iinc (lv' := [(0, .ref v0), (1, .int v1), (2, .int v2), (3, .int (v3 + 1))]) C rfl (Nat.le_of_ble_eq_true rfl) rfl (show _ + Int32.ofInt 1 = _ + 1 by congr 1) rfl ?_
      refine mg_goto C rfl ?_
      exact hk22 _ _ _ _ _ hf
def lX12_readSky_22 (N : Nat)  : Nat → Nat → Int32 → Int32 → Int32 → mm_C → mR Unit
  | 0, _, _, _, _, _ => none
  | m + 1, v0, v1, v2, v3, c => bX12_readSky_22 N  (lX12_readSky_22 N  m) v0 v1 v2 v3 c
theorem WX12_readSky_22 {Z : mm_Z} {X : mm_T} {k w mc ms d n N : Nat} {Q : mm_O → mm_H → Prop} (C : mm_Ok Z qX12_readSky X) (hRm : mt_R X = mm_rm d mc ms) (hd : 4 ≤ d) (hn : n + 1 < 1000000) (hk : k + 1 ≤ mc) (hw : w + 6 ≤ ms) : ∀ (m : Nat) {v0 : Nat} {v1 : Int32} {v2 : Int32} {v3 : Int32} {c : mm_C} (hf : hO 0 ovU n (lX12_readSky_22 N  m v0 v1 v2 v3 c) Q), mG Z qX12_readSky X k w mc ms Q (22, [(0, .ref v0), (1, .int v1), (2, .int v2), (3, .int v3)], [], (n, c)) := by
  intro m
  induction m with
  | zero => intro v0 v1 v2 v3 c hf; exact absurd hf hO_none
  | succ m ih => intro v0 v1 v2 v3 c hf; exact wX12_readSky_22 C hRm hd hn hk hw (fun v0 v1 v2 v3 c hf => ih hf) hf
def bX12_readSky_0 (N : Nat)  (v0 : Nat) (v1 : Int32) (c : mm_C) : mR Unit :=
  cV 12 v0 c (fX12_another N v0 (5 : Int32) (16 : Int32) c) fun r1 c2 => if ¬ r1 = 0 then (cV 12 v0 c2 (fX12_readNumber N v0 (1 : Int32) (480 : Int32) c2) fun r3 c4 => lX12_readSky_22 N  N v0 v1 r3 (0 : Int32) c4) else (some (.inl (), c2))
set_option maxRecDepth 100000 in
theorem wX12_readSky_0 {Z : mm_Z} {X : mm_T} {k w mc ms d n N : Nat} {Q : mm_O → mm_H → Prop} (C : mm_Ok Z qX12_readSky X) (hRm : mt_R X = mm_rm d mc ms) (hd : 4 ≤ d) (hn : n + 1 < 1000000) (hk : k + 1 ≤ mc) (hw : w + 6 ≤ ms) {v0 : Nat} {v1 : Int32} {c : mm_C} (hf : hO 0 ovU n (bX12_readSky_0 N  v0 v1 c) Q) : mG Z qX12_readSky X k w mc ms Q (0, [(0, .ref v0), (1, .int v1)], [], (n, c)) := by
  unfold bX12_readSky_0 at hf
  refine mg_aload_n C rfl rfl ?_
  refine mg_iconst (v := 5) C rfl (by decide) ?_
  refine mg_bipush (v := 16) C rfl (by decide) ?_
  refine mh_cVI (M' := qX12_another) C rfl rfl aX12_another iX12_another sX12_another hRm (by omega) (by decide) (by omega) (by omega) rfl rfl rfl (Nat.le_of_ble_eq_true rfl) rfl hf (fun hs => wX12_another (by omega) (by omega) hs) (fun r1 c2 hf => ?_)
  refine mh_if_ne C rfl hf (fun e_7 hf => ?_) (fun e_7 hf => ?_)
  · refine mg_aload_n C rfl rfl ?_
    refine mg_iconst (v := 1) C rfl (by decide) ?_
    refine mg_sipush (v := 480) C rfl (by decide) ?_
    refine mh_cVI (M' := qX12_readNumber) C rfl rfl aX12_readNumber iX12_readNumber sX12_readNumber hRm (by omega) (by decide) (by omega) (by omega) rfl rfl rfl (Nat.le_of_ble_eq_true rfl) rfl hf (fun hs => wX12_readNumber (by omega) (by omega) hs) (fun r3 c4 hf => ?_)
    refine mg_istore_n (lv' := [(0, .ref v0), (1, .int v1), (2, .int r3)]) C rfl (Nat.le_of_ble_eq_true rfl) rfl ?_
    refine mg_iconst (v := 0) C rfl (by decide) ?_
    refine mg_istore_n (lv' := [(0, .ref v0), (1, .int v1), (2, .int r3), (3, .int (0 : Int32))]) C rfl (Nat.le_of_ble_eq_true rfl) rfl ?_
    exact WX12_readSky_22 C hRm hd hn hk hw N hf
  · exact mh_return C rfl (by omega) (by omega) rfl hf
def fX12_readSky (N : Nat) (v0 : Nat) (v1 : Int32) (c : mm_C) : mR Unit := bX12_readSky_0 N v0 v1 c
set_option maxRecDepth 100000 in
theorem wX12_readSky {Z : mm_Z} {d n N : Nat} (hd : 4 ≤ d) (hn : n + 1 < 1000000) {v0 : Nat} {v1 : Int32} {c : mm_C} (hs : (fX12_readSky N v0 v1 c).isSome = true) : mC Z qX12_readSky d 1 6 [.ref v0, .int v1] (n, c) (mP 0 ovU n (fX12_readSky N v0 v1 c)) := by
  refine mC_of gX12_readSky (by decide +kernel) (Nat.le_of_ble_eq_true rfl) fun X C hRm => ?_
  have hf := hO_mP 0 ovU n hs
  have hk : 0 + 1 ≤ 1 := Nat.le_of_ble_eq_true rfl
  have hw : 0 + 6 ≤ 6 := Nat.le_of_ble_eq_true rfl
  show mG _ _ _ _ _ _ _ _ (0, [(0, .ref v0), (1, .int v1)], [], (n, c))
  exact wX12_readSky_0 C hRm hd hn hk hw hf
def bX12_readShot_161 (N : Nat)  (v0 : Nat) (c : mm_C) : mR Unit :=
  Option.bind (gR c v0 12 3) fun x1 => Option.bind (aI c x1 (8 : Int32)) fun x2 => Option.bind (tI c x1 (8 : Int32) (x2 + (1 : Int32))) fun c3 => some (.inl (), c3)
set_option maxRecDepth 100000 in
theorem wX12_readShot_161 {Z : mm_Z} {X : mm_T} {k w mc ms d n N : Nat} {Q : mm_O → mm_H → Prop} (C : mm_Ok Z qX12_readShot X) (hRm : mt_R X = mm_rm d mc ms) (hd : 6 ≤ d) (hn : n + 1 < 1000000) (hk : k + 1 ≤ mc) (hw : w + 6 ≤ ms) {v0 : Nat} {c : mm_C} (hf : hO 0 ovU n (bX12_readShot_161 N  v0 c) Q) : mG Z qX12_readShot X k w mc ms Q (161, [(0, .ref v0)], [], (n, c)) := by
  unfold bX12_readShot_161 at hf
  refine mg_aload_n C rfl rfl ?_
  refine mh_gR C rfl rfl rfl (by decide) hf (fun x1 hf => ?_)
  refine mg_bipush (v := 8) C rfl (by decide) ?_
  refine mg_dup2 C rfl rfl rfl ?_
  refine mh_aI C rfl hf (fun x2 hf => ?_)
  refine mg_iconst (v := 1) C rfl (by decide) ?_
  refine mg_iadd C rfl ?_
  refine mh_tI C rfl hf (fun c3 hf => ?_)
  exact mh_return C rfl (by omega) (by omega) rfl hf
def bX12_readShot_150 (N : Nat)  (v0 : Nat) (c : mm_C) : mR Unit :=
  Option.bind (gI c v0 12 23) fun x1 => if ¬ x1 = 0 then (bX12_readShot_161 N  v0 c) else (cV 12 v0 c (fX12_stepOn N v0 c) fun (_ : Unit) c2 => bX12_readShot_161 N  v0 c2)
set_option maxRecDepth 100000 in
theorem wX12_readShot_150 {Z : mm_Z} {X : mm_T} {k w mc ms d n N : Nat} {Q : mm_O → mm_H → Prop} (C : mm_Ok Z qX12_readShot X) (hRm : mt_R X = mm_rm d mc ms) (hd : 6 ≤ d) (hn : n + 1 < 1000000) (hk : k + 1 ≤ mc) (hw : w + 6 ≤ ms) {v0 : Nat} {c : mm_C} (hf : hO 0 ovU n (bX12_readShot_150 N  v0 c) Q) : mG Z qX12_readShot X k w mc ms Q (150, [(0, .ref v0)], [], (n, c)) := by
  unfold bX12_readShot_150 at hf
  refine mg_aload_n C rfl rfl ?_
  refine mh_gI C rfl rfl rfl (by decide) hf (fun x1 hf => ?_)
  refine mh_if_ne C rfl hf (fun e_154 hf => ?_) (fun e_154 hf => ?_)
  · exact wX12_readShot_161 C hRm hd hn hk hw hf
  · refine mg_aload_n C rfl rfl ?_
    refine mh_cVU (M' := qX12_stepOn) C rfl rfl aX12_stepOn iX12_stepOn sX12_stepOn hRm (by omega) (by decide) (by omega) (by omega) rfl rfl rfl (Nat.le_of_ble_eq_true rfl) rfl hf (fun hs => wX12_stepOn (by omega) (by omega) hs) (fun c2 hf => ?_)
    exact wX12_readShot_161 C hRm hd hn hk hw hf
def bX12_readShot_0 (N : Nat)  (v0 : Nat) (v1 : Int32) (c : mm_C) : mR Unit :=
  cV 12 v0 c (fX12_another N v0 (0 : Int32) (8 : Int32) c) fun r1 c2 => if ¬ r1 = 0 then (Option.bind (gR c2 v0 12 3) fun x3 => Option.bind (aI c2 x3 (8 : Int32)) fun x4 => Option.bind (gR c2 v0 12 4) fun x5 => Option.bind (tI c2 x5 ((8 : Int32) + x4) v1) fun c6 => Option.bind (gR c6 v0 12 5) fun x7 => cV 12 v0 c6 (fX12_readNumber N v0 (0 : Int32) (2 : Int32) c6) fun r8 c9 => Option.bind (tI c9 x7 ((8 : Int32) + x4) r8) fun c10 => Option.bind (gR c10 v0 12 6) fun x11 => cV 12 v0 c10 (fX12_readNumber N v0 (1 : Int32) (30 : Int32) c10) fun r12 c13 => Option.bind (tI c13 x11 ((8 : Int32) + x4) r12) fun c14 => Option.bind (gR c14 v0 12 7) fun x15 => cV 12 v0 c14 (fX12_readNumber N v0 (0 : Int32) (480 : Int32) c14) fun r16 c17 => Option.bind (tI c17 x15 ((8 : Int32) + x4) r16) fun c18 => Option.bind (gR c18 v0 12 8) fun x19 => Option.bind (gR c18 v0 12 7) fun x20 => Option.bind (aI c18 x20 ((8 : Int32) + x4)) fun x21 => cV 12 v0 c18 (fX12_readNumber N v0 x21 (480 : Int32) c18) fun r22 c23 => Option.bind (tI c23 x19 ((8 : Int32) + x4) r22) fun c24 => Option.bind (gR c24 v0 12 9) fun x25 => Option.bind (tI c24 x25 ((8 : Int32) + x4) (-1 : Int32)) fun c26 => cV 12 v0 c26 (fX12_is N v0 (1000000 + 4) c26) fun r27 c28 => if r27 = 0 then (bX12_readShot_161 N  v0 c28) else (cV 12 v0 c28 (fX12_stepOn N v0 c28) fun (_ : Unit) c29 => Option.bind (gR c29 v0 12 9) fun x30 => cV 12 v0 c29 (fX12_numberNow N v0 (0 : Int32) (9999 : Int32) c29) fun r31 c32 => Option.bind (tI c32 x30 ((8 : Int32) + x4) r31) fun c33 => Option.bind (gI c33 v0 12 23) fun x34 => if ¬ x34 = 0 then (bX12_readShot_150 N  v0 c33) else (Option.bind (gR c33 v0 12 9) fun x35 => Option.bind (aI c33 x35 ((8 : Int32) + x4)) fun x36 => Option.bind (gR c33 v0 12 3) fun x37 => Option.bind (aI c33 x37 (8 : Int32)) fun x38 => if x36 < x38 then (bX12_readShot_150 N  v0 c33) else (cV 12 v0 c33 (fX12_wrong N v0 (3 : Int32) c33) fun (_ : Unit) c39 => bX12_readShot_150 N  v0 c39)))) else (some (.inl (), c2))
set_option maxRecDepth 100000 in
theorem wX12_readShot_0 {Z : mm_Z} {X : mm_T} {k w mc ms d n N : Nat} {Q : mm_O → mm_H → Prop} (C : mm_Ok Z qX12_readShot X) (hRm : mt_R X = mm_rm d mc ms) (hd : 6 ≤ d) (hn : n + 1 < 1000000) (hk : k + 1 ≤ mc) (hw : w + 6 ≤ ms) {v0 : Nat} {v1 : Int32} {c : mm_C} (hf : hO 0 ovU n (bX12_readShot_0 N  v0 v1 c) Q) : mG Z qX12_readShot X k w mc ms Q (0, [(0, .ref v0), (1, .int v1)], [], (n, c)) := by
  unfold bX12_readShot_0 at hf
  refine mg_aload_n C rfl rfl ?_
  refine mg_iconst (v := 0) C rfl (by decide) ?_
  refine mg_bipush (v := 8) C rfl (by decide) ?_
  refine mh_cVI (M' := qX12_another) C rfl rfl aX12_another iX12_another sX12_another hRm (by omega) (by decide) (by omega) (by omega) rfl rfl rfl (Nat.le_of_ble_eq_true rfl) rfl hf (fun hs => wX12_another (by omega) (by omega) hs) (fun r1 c2 hf => ?_)
  refine mh_if_ne C rfl hf (fun e_7 hf => ?_) (fun e_7 hf => ?_)
  · refine mg_bipush (v := 8) C rfl (by decide) ?_
    refine mg_aload_n C rfl rfl ?_
    refine mh_gR C rfl rfl rfl (by decide) hf (fun x3 hf => ?_)
    refine mg_bipush (v := 8) C rfl (by decide) ?_
    refine mh_aI C rfl hf (fun x4 hf => ?_)
    refine mg_iadd C rfl ?_
    refine mg_istore_n (lv' := [(0, .ref v0), (1, .int v1), (2, .int ((8 : Int32) + x4))]) C rfl (Nat.le_of_ble_eq_true rfl) rfl ?_
    refine mg_aload_n C rfl rfl ?_
    refine mh_gR C rfl rfl rfl (by decide) hf (fun x5 hf => ?_)
    refine mg_iload_n C rfl rfl ?_
    refine mg_iload_n C rfl rfl ?_
    refine mh_tI C rfl hf (fun c6 hf => ?_)
    refine mg_aload_n C rfl rfl ?_
    refine mh_gR C rfl rfl rfl (by decide) hf (fun x7 hf => ?_)
    refine mg_iload_n C rfl rfl ?_
    refine mg_aload_n C rfl rfl ?_
    refine mg_iconst (v := 0) C rfl (by decide) ?_
    refine mg_iconst (v := 2) C rfl (by decide) ?_
    refine mh_cVI (M' := qX12_readNumber) C rfl rfl aX12_readNumber iX12_readNumber sX12_readNumber hRm (by omega) (by decide) (by omega) (by omega) rfl rfl rfl (Nat.le_of_ble_eq_true rfl) rfl hf (fun hs => wX12_readNumber (by omega) (by omega) hs) (fun r8 c9 hf => ?_)
    refine mh_tI C rfl hf (fun c10 hf => ?_)
    refine mg_aload_n C rfl rfl ?_
    refine mh_gR C rfl rfl rfl (by decide) hf (fun x11 hf => ?_)
    refine mg_iload_n C rfl rfl ?_
    refine mg_aload_n C rfl rfl ?_
    refine mg_iconst (v := 1) C rfl (by decide) ?_
    refine mg_bipush (v := 30) C rfl (by decide) ?_
    refine mh_cVI (M' := qX12_readNumber) C rfl rfl aX12_readNumber iX12_readNumber sX12_readNumber hRm (by omega) (by decide) (by omega) (by omega) rfl rfl rfl (Nat.le_of_ble_eq_true rfl) rfl hf (fun hs => wX12_readNumber (by omega) (by omega) hs) (fun r12 c13 hf => ?_)
    refine mh_tI C rfl hf (fun c14 hf => ?_)
    refine mg_aload_n C rfl rfl ?_
    refine mh_gR C rfl rfl rfl (by decide) hf (fun x15 hf => ?_)
    refine mg_iload_n C rfl rfl ?_
    refine mg_aload_n C rfl rfl ?_
    refine mg_iconst (v := 0) C rfl (by decide) ?_
    refine mg_sipush (v := 480) C rfl (by decide) ?_
    refine mh_cVI (M' := qX12_readNumber) C rfl rfl aX12_readNumber iX12_readNumber sX12_readNumber hRm (by omega) (by decide) (by omega) (by omega) rfl rfl rfl (Nat.le_of_ble_eq_true rfl) rfl hf (fun hs => wX12_readNumber (by omega) (by omega) hs) (fun r16 c17 hf => ?_)
    refine mh_tI C rfl hf (fun c18 hf => ?_)
    refine mg_aload_n C rfl rfl ?_
    refine mh_gR C rfl rfl rfl (by decide) hf (fun x19 hf => ?_)
    refine mg_iload_n C rfl rfl ?_
    refine mg_aload_n C rfl rfl ?_
    refine mg_aload_n C rfl rfl ?_
    refine mh_gR C rfl rfl rfl (by decide) hf (fun x20 hf => ?_)
    refine mg_iload_n C rfl rfl ?_
    refine mh_aI C rfl hf (fun x21 hf => ?_)
    refine mg_sipush (v := 480) C rfl (by decide) ?_
    refine mh_cVI (M' := qX12_readNumber) C rfl rfl aX12_readNumber iX12_readNumber sX12_readNumber hRm (by omega) (by decide) (by omega) (by omega) rfl rfl rfl (Nat.le_of_ble_eq_true rfl) rfl hf (fun hs => wX12_readNumber (by omega) (by omega) hs) (fun r22 c23 hf => ?_)
    refine mh_tI C rfl hf (fun c24 hf => ?_)
    refine mg_aload_n C rfl rfl ?_
    refine mh_gR C rfl rfl rfl (by decide) hf (fun x25 hf => ?_)
    refine mg_iload_n C rfl rfl ?_
    refine mg_iconst (v := (-1)) C rfl (by decide) ?_
    refine mh_tI C rfl hf (fun c26 hf => ?_)
    refine mg_aload_n C rfl rfl ?_
    refine mg_ldcSw (i := 4) (tx := "after") C rfl (by decide) ?_
    refine mh_cVI (M' := qX12_is) C rfl rfl aX12_is iX12_is sX12_is hRm (by omega) (by decide) (by omega) (by omega) rfl rfl rfl (Nat.le_of_ble_eq_true rfl) rfl hf (fun hs => wX12_is (by omega) (by omega) hs) (fun r27 c28 hf => ?_)
    refine mh_if_eq C rfl hf (fun e_101 hf => ?_) (fun e_101 hf => ?_)
    · refine mg_sub (lv' := [(0, .ref v0)]) (by simp) ?_
      exact wX12_readShot_161 C hRm hd hn hk hw hf
    · refine mg_aload_n C rfl rfl ?_
      refine mh_cVU (M' := qX12_stepOn) C rfl rfl aX12_stepOn iX12_stepOn sX12_stepOn hRm (by omega) (by decide) (by omega) (by omega) rfl rfl rfl (Nat.le_of_ble_eq_true rfl) rfl hf (fun hs => wX12_stepOn (by omega) (by omega) hs) (fun c29 hf => ?_)
      refine mg_aload_n C rfl rfl ?_
      refine mh_gR C rfl rfl rfl (by decide) hf (fun x30 hf => ?_)
      refine mg_iload_n C rfl rfl ?_
      refine mg_aload_n C rfl rfl ?_
      refine mg_iconst (v := 0) C rfl (by decide) ?_
      refine mg_sipush (v := 9999) C rfl (by decide) ?_
      refine mh_cVI (M' := qX12_numberNow) C rfl rfl aX12_numberNow iX12_numberNow sX12_numberNow hRm (by omega) (by decide) (by omega) (by omega) rfl rfl rfl (Nat.le_of_ble_eq_true rfl) rfl hf (fun hs => wX12_numberNow (by omega) (by omega) hs) (fun r31 c32 hf => ?_)
      refine mh_tI C rfl hf (fun c33 hf => ?_)
      refine mg_aload_n C rfl rfl ?_
      refine mh_gI C rfl rfl rfl (by decide) hf (fun x34 hf => ?_)
      refine mh_if_ne C rfl hf (fun e_126 hf => ?_) (fun e_126 hf => ?_)
      · refine mg_sub (lv' := [(0, .ref v0)]) (by simp) ?_
        exact wX12_readShot_150 C hRm hd hn hk hw hf
      · refine mg_aload_n C rfl rfl ?_
        refine mh_gR C rfl rfl rfl (by decide) hf (fun x35 hf => ?_)
        refine mg_iload_n C rfl rfl ?_
        refine mh_aI C rfl hf (fun x36 hf => ?_)
        refine mg_aload_n C rfl rfl ?_
        refine mh_gR C rfl rfl rfl (by decide) hf (fun x37 hf => ?_)
        refine mg_bipush (v := 8) C rfl (by decide) ?_
        refine mh_aI C rfl hf (fun x38 hf => ?_)
        refine mh_icmp_lt C rfl hf (fun e_142 hf => ?_) (fun e_142 hf => ?_)
        · refine mg_sub (lv' := [(0, .ref v0)]) (by simp) ?_
          exact wX12_readShot_150 C hRm hd hn hk hw hf
        · refine mg_aload_n C rfl rfl ?_
          refine mg_iconst (v := 3) C rfl (by decide) ?_
          refine mh_cVU (M' := qX12_wrong) C rfl rfl aX12_wrong iX12_wrong sX12_wrong hRm (by omega) (by decide) (by omega) (by omega) rfl rfl rfl (Nat.le_of_ble_eq_true rfl) rfl hf (fun hs => wX12_wrong (by omega) (by omega) hs) (fun c39 hf => ?_)
          refine mg_sub (lv' := [(0, .ref v0)]) (by simp) ?_
          exact wX12_readShot_150 C hRm hd hn hk hw hf
  · exact mh_return C rfl (by omega) (by omega) rfl hf
def fX12_readShot (N : Nat) (v0 : Nat) (v1 : Int32) (c : mm_C) : mR Unit := bX12_readShot_0 N v0 v1 c
set_option maxRecDepth 100000 in
theorem wX12_readShot {Z : mm_Z} {d n N : Nat} (hd : 6 ≤ d) (hn : n + 1 < 1000000) {v0 : Nat} {v1 : Int32} {c : mm_C} (hs : (fX12_readShot N v0 v1 c).isSome = true) : mC Z qX12_readShot d 1 6 [.ref v0, .int v1] (n, c) (mP 0 ovU n (fX12_readShot N v0 v1 c)) := by
  refine mC_of gX12_readShot (by decide +kernel) (Nat.le_of_ble_eq_true rfl) fun X C hRm => ?_
  have hf := hO_mP 0 ovU n hs
  have hk : 0 + 1 ≤ 1 := Nat.le_of_ble_eq_true rfl
  have hw : 0 + 6 ≤ 6 := Nat.le_of_ble_eq_true rfl
  show mG _ _ _ _ _ _ _ _ (0, [(0, .ref v0), (1, .int v1)], [], (n, c))
  exact wX12_readShot_0 C hRm hd hn hk hw hf
def bX12_readRule_0 (N : Nat)  (v0 : Nat) (c : mm_C) : mR Unit :=
  cV 12 v0 c (fX12_another N v0 (4 : Int32) (4 : Int32) c) fun r1 c2 => if ¬ r1 = 0 then (Option.bind (gR c2 v0 12 3) fun x3 => Option.bind (aI c2 x3 (12 : Int32)) fun x4 => Option.bind (gR c2 v0 12 11) fun x5 => Option.bind (gR c2 v0 12 3) fun x6 => Option.bind (aI c2 x6 (14 : Int32)) fun x7 => Option.bind (tI c2 x5 ((4 : Int32) + x4) x7) fun c8 => cV 12 v0 c8 (fX12_readExpression N 12 v0 (0 : Int32) c8) fun (_ : Unit) c9 => Option.bind (gR c9 v0 12 12) fun x10 => Option.bind (gR c9 v0 12 3) fun x11 => Option.bind (aI c9 x11 (14 : Int32)) fun x12 => Option.bind (tI c9 x10 ((4 : Int32) + x4) x12) fun c13 => Option.bind (gR c13 v0 12 3) fun x14 => Option.bind (aI c13 x14 (12 : Int32)) fun x15 => Option.bind (tI c13 x14 (12 : Int32) (x15 + (1 : Int32))) fun c16 => some (.inl (), c16)) else (some (.inl (), c2))
set_option maxRecDepth 100000 in
theorem wX12_readRule_0 {Z : mm_Z} {X : mm_T} {k w mc ms d n N : Nat} {Q : mm_O → mm_H → Prop} (C : mm_Ok Z qX12_readRule X) (hRm : mt_R X = mm_rm d mc ms) (hd : 85 ≤ d) (hn : n + 1 < 1000000) (hk : k + 1 ≤ mc) (hw : w + 6 ≤ ms) {v0 : Nat} {c : mm_C} (hf : hO 0 ovU n (bX12_readRule_0 N  v0 c) Q) : mG Z qX12_readRule X k w mc ms Q (0, [(0, .ref v0)], [], (n, c)) := by
  unfold bX12_readRule_0 at hf
  refine mg_aload_n C rfl rfl ?_
  refine mg_iconst (v := 4) C rfl (by decide) ?_
  refine mg_iconst (v := 4) C rfl (by decide) ?_
  refine mh_cVI (M' := qX12_another) C rfl rfl aX12_another iX12_another sX12_another hRm (by omega) (by decide) (by omega) (by omega) rfl rfl rfl (Nat.le_of_ble_eq_true rfl) rfl hf (fun hs => wX12_another (by omega) (by omega) hs) (fun r1 c2 hf => ?_)
  refine mh_if_ne C rfl hf (fun e_6 hf => ?_) (fun e_6 hf => ?_)
  · refine mg_iconst (v := 4) C rfl (by decide) ?_
    refine mg_aload_n C rfl rfl ?_
    refine mh_gR C rfl rfl rfl (by decide) hf (fun x3 hf => ?_)
    refine mg_bipush (v := 12) C rfl (by decide) ?_
    refine mh_aI C rfl hf (fun x4 hf => ?_)
    refine mg_iadd C rfl ?_
    refine mg_istore_n (lv' := [(0, .ref v0), (1, .int ((4 : Int32) + x4))]) C rfl (Nat.le_of_ble_eq_true rfl) rfl ?_
    refine mg_aload_n C rfl rfl ?_
    refine mh_gR C rfl rfl rfl (by decide) hf (fun x5 hf => ?_)
    refine mg_iload_n C rfl rfl ?_
    refine mg_aload_n C rfl rfl ?_
    refine mh_gR C rfl rfl rfl (by decide) hf (fun x6 hf => ?_)
    refine mg_bipush (v := 14) C rfl (by decide) ?_
    refine mh_aI C rfl hf (fun x7 hf => ?_)
    refine mh_tI C rfl hf (fun c8 hf => ?_)
    refine mg_aload_n C rfl rfl ?_
    refine mg_iconst (v := 0) C rfl (by decide) ?_
    refine mh_cVU (M' := qX12_readExpression) C rfl rfl aX12_readExpression iX12_readExpression sX12_readExpression hRm (by omega) (by decide) (by omega) (by omega) rfl rfl rfl (Nat.le_of_ble_eq_true rfl) rfl hf (fun hs => wX12_readExpression (by omega) (by omega) hs) (fun c9 hf => ?_)
    refine mg_aload_n C rfl rfl ?_
    refine mh_gR C rfl rfl rfl (by decide) hf (fun x10 hf => ?_)
    refine mg_iload_n C rfl rfl ?_
    refine mg_aload_n C rfl rfl ?_
    refine mh_gR C rfl rfl rfl (by decide) hf (fun x11 hf => ?_)
    refine mg_bipush (v := 14) C rfl (by decide) ?_
    refine mh_aI C rfl hf (fun x12 hf => ?_)
    refine mh_tI C rfl hf (fun c13 hf => ?_)
    refine mg_aload_n C rfl rfl ?_
    refine mh_gR C rfl rfl rfl (by decide) hf (fun x14 hf => ?_)
    refine mg_bipush (v := 12) C rfl (by decide) ?_
    refine mg_dup2 C rfl rfl rfl ?_
    refine mh_aI C rfl hf (fun x15 hf => ?_)
    refine mg_iconst (v := 1) C rfl (by decide) ?_
    refine mg_iadd C rfl ?_
    refine mh_tI C rfl hf (fun c16 hf => ?_)
    exact mh_return C rfl (by omega) (by omega) rfl hf
  · exact mh_return C rfl (by omega) (by omega) rfl hf
def fX12_readRule (N : Nat) (v0 : Nat) (c : mm_C) : mR Unit := bX12_readRule_0 N v0 c
set_option maxRecDepth 100000 in
theorem wX12_readRule {Z : mm_Z} {d n N : Nat} (hd : 85 ≤ d) (hn : n + 1 < 1000000) {v0 : Nat} {c : mm_C} (hs : (fX12_readRule N v0 c).isSome = true) : mC Z qX12_readRule d 1 6 [.ref v0] (n, c) (mP 0 ovU n (fX12_readRule N v0 c)) := by
  refine mC_of gX12_readRule (by decide +kernel) (Nat.le_of_ble_eq_true rfl) fun X C hRm => ?_
  have hf := hO_mP 0 ovU n hs
  have hk : 0 + 1 ≤ 1 := Nat.le_of_ble_eq_true rfl
  have hw : 0 + 6 ≤ 6 := Nat.le_of_ble_eq_true rfl
  show mG _ _ _ _ _ _ _ _ (0, [(0, .ref v0)], [], (n, c))
  exact wX12_readRule_0 C hRm hd hn hk hw hf
def bX12_readLine_213 (N : Nat)  (v0 : Nat) (v1 : Int32) (v2 : Int32) (c : mm_C) : mR Int32 :=
  cV 12 v0 c (fX12_mark N v0 (59 : Int32) c) fun (_ : Unit) c1 => some (.inl (v1 ||| v2), c1)
set_option maxRecDepth 100000 in
theorem wX12_readLine_213 {Z : mm_Z} {X : mm_T} {k w mc ms d n N : Nat} {Q : mm_O → mm_H → Prop} (C : mm_Ok Z qX12_readLine X) (hRm : mt_R X = mm_rm d mc ms) (hd : 86 ≤ d) (hn : n + 1 < 1000000) (hk : k + 1 ≤ mc) (hw : w + 6 ≤ ms) {v0 : Nat} {v1 : Int32} {v2 : Int32} {c : mm_C} (hf : hO 0 ovI n (bX12_readLine_213 N  v0 v1 v2 c) Q) : mG Z qX12_readLine X k w mc ms Q (213, [(0, .ref v0), (1, .int v1), (2, .int v2)], [], (n, c)) := by
  unfold bX12_readLine_213 at hf
  refine mg_aload_n C rfl rfl ?_
  refine mg_bipush (v := 59) C rfl (by decide) ?_
  refine mh_cVU (M' := qX12_mark) C rfl rfl aX12_mark iX12_mark sX12_mark hRm (by omega) (by decide) (by omega) (by omega) rfl rfl rfl (Nat.le_of_ble_eq_true rfl) rfl hf (fun hs => wX12_mark (by omega) (by omega) hs) (fun c1 hf => ?_)
  refine mg_iload_n C rfl rfl ?_
  refine mg_iload_n C rfl rfl ?_
  refine mg_ior C rfl ?_
  exact mh_ireturn C rfl (by omega) (by omega) rfl hf
def bX12_readLine_79 (N : Nat)  (v0 : Nat) (v1 : Int32) (v2 : Int32) (c : mm_C) : mR Int32 :=
  if ¬ v2 = (1 : Int32) then (if ¬ v2 = (2 : Int32) then (Option.bind (gR c v0 12 3) fun x1 => cV 12 v0 c (fX12_readNumber N v0 (0 : Int32) (9 : Int32) c) fun r2 c3 => Option.bind (tI c3 x1 (11 : Int32) r2) fun c4 => bX12_readLine_213 N  v0 v1 v2 c4) else (Option.bind (gR c v0 12 3) fun x5 => cV 12 v0 c (fX12_readNumber N v0 (0 : Int32) (120 : Int32) c) fun r6 c7 => Option.bind (tI c7 x5 (10 : Int32) r6) fun c8 => bX12_readLine_213 N  v0 v1 v2 c8)) else (Option.bind (gR c v0 12 3) fun x9 => cV 12 v0 c (fX12_readNumber N v0 (10 : Int32) (480 : Int32) c) fun r10 c11 => Option.bind (tI c11 x9 (9 : Int32) r10) fun c12 => bX12_readLine_213 N  v0 v1 v2 c12)
set_option maxRecDepth 100000 in
theorem wX12_readLine_79 {Z : mm_Z} {X : mm_T} {k w mc ms d n N : Nat} {Q : mm_O → mm_H → Prop} (C : mm_Ok Z qX12_readLine X) (hRm : mt_R X = mm_rm d mc ms) (hd : 86 ≤ d) (hn : n + 1 < 1000000) (hk : k + 1 ≤ mc) (hw : w + 6 ≤ ms) {v0 : Nat} {v1 : Int32} {v2 : Int32} {c : mm_C} (hf : hO 0 ovI n (bX12_readLine_79 N  v0 v1 v2 c) Q) : mG Z qX12_readLine X k w mc ms Q (79, [(0, .ref v0), (1, .int v1), (2, .int v2)], [], (n, c)) := by
  unfold bX12_readLine_79 at hf
  refine mg_iload_n C rfl rfl ?_
  refine mg_iconst (v := 1) C rfl (by decide) ?_
  refine mh_icmp_ne C rfl hf (fun e_81 hf => ?_) (fun e_81 hf => ?_)
  · refine mg_iload_n C rfl rfl ?_
    refine mg_iconst (v := 2) C rfl (by decide) ?_
    refine mh_icmp_ne C rfl hf (fun e_105 hf => ?_) (fun e_105 hf => ?_)
    · refine mg_aload_n C rfl rfl ?_
      refine mh_gR C rfl rfl rfl (by decide) hf (fun x1 hf => ?_)
      refine mg_bipush (v := 11) C rfl (by decide) ?_
      refine mg_aload_n C rfl rfl ?_
      refine mg_iconst (v := 0) C rfl (by decide) ?_
      refine mg_bipush (v := 9) C rfl (by decide) ?_
      refine mh_cVI (M' := qX12_readNumber) C rfl rfl aX12_readNumber iX12_readNumber sX12_readNumber hRm (by omega) (by decide) (by omega) (by omega) rfl rfl rfl (Nat.le_of_ble_eq_true rfl) rfl hf (fun hs => wX12_readNumber (by omega) (by omega) hs) (fun r2 c3 hf => ?_)
      refine mh_tI C rfl hf (fun c4 hf => ?_)
      refine mg_goto C rfl ?_
      exact wX12_readLine_213 C hRm hd hn hk hw hf
    · refine mg_aload_n C rfl rfl ?_
      refine mh_gR C rfl rfl rfl (by decide) hf (fun x5 hf => ?_)
      refine mg_bipush (v := 10) C rfl (by decide) ?_
      refine mg_aload_n C rfl rfl ?_
      refine mg_iconst (v := 0) C rfl (by decide) ?_
      refine mg_bipush (v := 120) C rfl (by decide) ?_
      refine mh_cVI (M' := qX12_readNumber) C rfl rfl aX12_readNumber iX12_readNumber sX12_readNumber hRm (by omega) (by decide) (by omega) (by omega) rfl rfl rfl (Nat.le_of_ble_eq_true rfl) rfl hf (fun hs => wX12_readNumber (by omega) (by omega) hs) (fun r6 c7 hf => ?_)
      refine mh_tI C rfl hf (fun c8 hf => ?_)
      refine mg_goto C rfl ?_
      exact wX12_readLine_213 C hRm hd hn hk hw hf
  · refine mg_aload_n C rfl rfl ?_
    refine mh_gR C rfl rfl rfl (by decide) hf (fun x9 hf => ?_)
    refine mg_bipush (v := 9) C rfl (by decide) ?_
    refine mg_aload_n C rfl rfl ?_
    refine mg_bipush (v := 10) C rfl (by decide) ?_
    refine mg_sipush (v := 480) C rfl (by decide) ?_
    refine mh_cVI (M' := qX12_readNumber) C rfl rfl aX12_readNumber iX12_readNumber sX12_readNumber hRm (by omega) (by decide) (by omega) (by omega) rfl rfl rfl (Nat.le_of_ble_eq_true rfl) rfl hf (fun hs => wX12_readNumber (by omega) (by omega) hs) (fun r10 c11 hf => ?_)
    refine mh_tI C rfl hf (fun c12 hf => ?_)
    refine mg_goto C rfl ?_
    exact wX12_readLine_213 C hRm hd hn hk hw hf
def bX12_readLine_64 (N : Nat)  (v0 : Nat) (v1 : Int32) (v2 : Int32) (v3 : Int32) (c : mm_C) : mR Int32 :=
  if v2 ≤ 0 then (if v3 = (-1 : Int32) then (cV 12 v0 c (fX12_is N v0 (1000000 + 34) c) fun r1 c2 => if r1 = 0 then (cV 12 v0 c2 (fX12_is N v0 (1000000 + 35) c2) fun r3 c4 => if r3 = 0 then (cV 12 v0 c4 (fX12_is N v0 (1000000 + 36) c4) fun r5 c6 => if r5 = 0 then (cV 12 v0 c6 (fX12_wrong N v0 (1 : Int32) c6) fun (_ : Unit) c7 => bX12_readLine_213 N  v0 v1 v2 c7) else (cV 12 v0 c6 (fX12_readRule N v0 c6) fun (_ : Unit) c8 => bX12_readLine_213 N  v0 v1 v2 c8)) else (cV 12 v0 c4 (fX12_readSky N v0 (0 : Int32) c4) fun (_ : Unit) c9 => bX12_readLine_213 N  v0 v1 v2 c9)) else (cV 12 v0 c2 (fX12_readSky N v0 (1 : Int32) c2) fun (_ : Unit) c10 => bX12_readLine_213 N  v0 v1 v2 c10)) else (cV 12 v0 c (fX12_readShot N v0 v3 c) fun (_ : Unit) c11 => bX12_readLine_213 N  v0 v1 v2 c11)) else (Option.bind (gI c v0 12 23) fun x12 => if ¬ x12 = 0 then (bX12_readLine_79 N  v0 v1 v2 c) else (cV 12 v0 c (fX12_stepOn N v0 c) fun (_ : Unit) c13 => bX12_readLine_79 N  v0 v1 v2 c13))
set_option maxRecDepth 100000 in
theorem wX12_readLine_64 {Z : mm_Z} {X : mm_T} {k w mc ms d n N : Nat} {Q : mm_O → mm_H → Prop} (C : mm_Ok Z qX12_readLine X) (hRm : mt_R X = mm_rm d mc ms) (hd : 86 ≤ d) (hn : n + 1 < 1000000) (hk : k + 1 ≤ mc) (hw : w + 6 ≤ ms) {v0 : Nat} {v1 : Int32} {v2 : Int32} {v3 : Int32} {c : mm_C} (hf : hO 0 ovI n (bX12_readLine_64 N  v0 v1 v2 v3 c) Q) : mG Z qX12_readLine X k w mc ms Q (64, [(0, .ref v0), (1, .int v1), (2, .int v2), (3, .int v3)], [], (n, c)) := by
  unfold bX12_readLine_64 at hf
  refine mg_iload_n C rfl rfl ?_
  refine mh_if_le C rfl hf (fun e_65 hf => ?_) (fun e_65 hf => ?_)
  · refine mg_iload_n C rfl rfl ?_
    refine mg_iconst (v := (-1)) C rfl (by decide) ?_
    refine mh_icmp_eq C rfl hf (fun e_144 hf => ?_) (fun e_144 hf => ?_)
    · refine mg_aload_n C rfl rfl ?_
      refine mg_ldcSw (i := 34) (tx := "sun") C rfl (by decide) ?_
      refine mh_cVI (M' := qX12_is) C rfl rfl aX12_is iX12_is sX12_is hRm (by omega) (by decide) (by omega) (by omega) rfl rfl rfl (Nat.le_of_ble_eq_true rfl) rfl hf (fun hs => wX12_is (by omega) (by omega) hs) (fun r1 c2 hf => ?_)
      refine mh_if_eq C rfl hf (fun e_162 hf => ?_) (fun e_162 hf => ?_)
      · refine mg_aload_n C rfl rfl ?_
        refine mg_ldcSw (i := 35) (tx := "cloud") C rfl (by decide) ?_
        refine mh_cVI (M' := qX12_is) C rfl rfl aX12_is iX12_is sX12_is hRm (by omega) (by decide) (by omega) (by omega) rfl rfl rfl (Nat.le_of_ble_eq_true rfl) rfl hf (fun hs => wX12_is (by omega) (by omega) hs) (fun r3 c4 hf => ?_)
        refine mh_if_eq C rfl hf (fun e_180 hf => ?_) (fun e_180 hf => ?_)
        · refine mg_aload_n C rfl rfl ?_
          refine mg_ldcSw (i := 36) (tx := "rule") C rfl (by decide) ?_
          refine mh_cVI (M' := qX12_is) C rfl rfl aX12_is iX12_is sX12_is hRm (by omega) (by decide) (by omega) (by omega) rfl rfl rfl (Nat.le_of_ble_eq_true rfl) rfl hf (fun hs => wX12_is (by omega) (by omega) hs) (fun r5 c6 hf => ?_)
          refine mh_if_eq C rfl hf (fun e_198 hf => ?_) (fun e_198 hf => ?_)
          · refine mg_aload_n C rfl rfl ?_
            refine mg_iconst (v := 1) C rfl (by decide) ?_
            refine mh_cVU (M' := qX12_wrong) C rfl rfl aX12_wrong iX12_wrong sX12_wrong hRm (by omega) (by decide) (by omega) (by omega) rfl rfl rfl (Nat.le_of_ble_eq_true rfl) rfl hf (fun hs => wX12_wrong (by omega) (by omega) hs) (fun c7 hf => ?_)
            refine mg_sub (lv' := [(0, .ref v0), (1, .int v1), (2, .int v2)]) (by simp) ?_
            exact wX12_readLine_213 C hRm hd hn hk hw hf
          · refine mg_aload_n C rfl rfl ?_
            refine mh_cVU (M' := qX12_readRule) C rfl rfl aX12_readRule iX12_readRule sX12_readRule hRm (by omega) (by decide) (by omega) (by omega) rfl rfl rfl (Nat.le_of_ble_eq_true rfl) rfl hf (fun hs => wX12_readRule (by omega) (by omega) hs) (fun c8 hf => ?_)
            refine mg_goto C rfl ?_
            refine mg_sub (lv' := [(0, .ref v0), (1, .int v1), (2, .int v2)]) (by simp) ?_
            exact wX12_readLine_213 C hRm hd hn hk hw hf
        · refine mg_aload_n C rfl rfl ?_
          refine mg_iconst (v := 0) C rfl (by decide) ?_
          refine mh_cVU (M' := qX12_readSky) C rfl rfl aX12_readSky iX12_readSky sX12_readSky hRm (by omega) (by decide) (by omega) (by omega) rfl rfl rfl (Nat.le_of_ble_eq_true rfl) rfl hf (fun hs => wX12_readSky (by omega) (by omega) hs) (fun c9 hf => ?_)
          refine mg_goto C rfl ?_
          refine mg_sub (lv' := [(0, .ref v0), (1, .int v1), (2, .int v2)]) (by simp) ?_
          exact wX12_readLine_213 C hRm hd hn hk hw hf
      · refine mg_aload_n C rfl rfl ?_
        refine mg_iconst (v := 1) C rfl (by decide) ?_
        refine mh_cVU (M' := qX12_readSky) C rfl rfl aX12_readSky iX12_readSky sX12_readSky hRm (by omega) (by decide) (by omega) (by omega) rfl rfl rfl (Nat.le_of_ble_eq_true rfl) rfl hf (fun hs => wX12_readSky (by omega) (by omega) hs) (fun c10 hf => ?_)
        refine mg_goto C rfl ?_
        refine mg_sub (lv' := [(0, .ref v0), (1, .int v1), (2, .int v2)]) (by simp) ?_
        exact wX12_readLine_213 C hRm hd hn hk hw hf
    · refine mg_aload_n C rfl rfl ?_
      refine mg_iload_n C rfl rfl ?_
      refine mh_cVU (M' := qX12_readShot) C rfl rfl aX12_readShot iX12_readShot sX12_readShot hRm (by omega) (by decide) (by omega) (by omega) rfl rfl rfl (Nat.le_of_ble_eq_true rfl) rfl hf (fun hs => wX12_readShot (by omega) (by omega) hs) (fun c11 hf => ?_)
      refine mg_goto C rfl ?_
      refine mg_sub (lv' := [(0, .ref v0), (1, .int v1), (2, .int v2)]) (by simp) ?_
      exact wX12_readLine_213 C hRm hd hn hk hw hf
  · refine mg_aload_n C rfl rfl ?_
    refine mh_gI C rfl rfl rfl (by decide) hf (fun x12 hf => ?_)
    refine mh_if_ne C rfl hf (fun e_72 hf => ?_) (fun e_72 hf => ?_)
    · refine mg_sub (lv' := [(0, .ref v0), (1, .int v1), (2, .int v2)]) (by simp) ?_
      exact wX12_readLine_79 C hRm hd hn hk hw hf
    · refine mg_aload_n C rfl rfl ?_
      refine mh_cVU (M' := qX12_stepOn) C rfl rfl aX12_stepOn iX12_stepOn sX12_stepOn hRm (by omega) (by decide) (by omega) (by omega) rfl rfl rfl (Nat.le_of_ble_eq_true rfl) rfl hf (fun hs => wX12_stepOn (by omega) (by omega) hs) (fun c13 hf => ?_)
      refine mg_sub (lv' := [(0, .ref v0), (1, .int v1), (2, .int v2)]) (by simp) ?_
      exact wX12_readLine_79 C hRm hd hn hk hw hf
def bX12_readLine_43 (N : Nat)  (v0 : Nat) (v1 : Int32) (s0 : Int32) (c : mm_C) : mR Int32 :=
  Option.bind (gR c v0 12 0) fun x1 => cV 12 v0 c (fX12_wordOf N v0 x1 c) fun r2 c3 => if (s0 &&& v1) = 0 then (bX12_readLine_64 N  v0 v1 s0 r2 c3) else (cV 12 v0 c3 (fX12_wrong N v0 (4 : Int32) c3) fun (_ : Unit) c4 => bX12_readLine_64 N  v0 v1 s0 r2 c4)
set_option maxRecDepth 100000 in
theorem wX12_readLine_43 {Z : mm_Z} {X : mm_T} {k w mc ms d n N : Nat} {Q : mm_O → mm_H → Prop} (C : mm_Ok Z qX12_readLine X) (hRm : mt_R X = mm_rm d mc ms) (hd : 86 ≤ d) (hn : n + 1 < 1000000) (hk : k + 1 ≤ mc) (hw : w + 6 ≤ ms) {v0 : Nat} {v1 : Int32} {s0 : Int32} {c : mm_C} (hf : hO 0 ovI n (bX12_readLine_43 N  v0 v1 s0 c) Q) : mG Z qX12_readLine X k w mc ms Q (43, [(0, .ref v0), (1, .int v1)], [.int s0], (n, c)) := by
  unfold bX12_readLine_43 at hf
  refine mg_istore_n (lv' := [(0, .ref v0), (1, .int v1), (2, .int s0)]) C rfl (Nat.le_of_ble_eq_true rfl) rfl ?_
  refine mg_aload_n C rfl rfl ?_
  refine mg_aload_n C rfl rfl ?_
  refine mh_gR C rfl rfl rfl (by decide) hf (fun x1 hf => ?_)
  refine mh_cVI (M' := qX12_wordOf) C rfl rfl aX12_wordOf iX12_wordOf sX12_wordOf hRm (by omega) (by decide) (by omega) (by omega) rfl rfl rfl (Nat.le_of_ble_eq_true rfl) rfl hf (fun hs => wX12_wordOf (by omega) (by omega) hs) (fun r2 c3 hf => ?_)
  refine mg_istore_n (lv' := [(0, .ref v0), (1, .int v1), (2, .int s0), (3, .int r2)]) C rfl (Nat.le_of_ble_eq_true rfl) rfl ?_
  refine mg_iload_n C rfl rfl ?_
  refine mg_iload_n C rfl rfl ?_
  refine mg_iand C rfl ?_
  refine mh_if_eq C rfl hf (fun e_56 hf => ?_) (fun e_56 hf => ?_)
  · exact wX12_readLine_64 C hRm hd hn hk hw hf
  · refine mg_aload_n C rfl rfl ?_
    refine mg_iconst (v := 4) C rfl (by decide) ?_
    refine mh_cVU (M' := qX12_wrong) C rfl rfl aX12_wrong iX12_wrong sX12_wrong hRm (by omega) (by decide) (by omega) (by omega) rfl rfl rfl (Nat.le_of_ble_eq_true rfl) rfl hf (fun hs => wX12_wrong (by omega) (by omega) hs) (fun c4 hf => ?_)
    exact wX12_readLine_64 C hRm hd hn hk hw hf
def bX12_readLine_0 (N : Nat)  (v0 : Nat) (v1 : Int32) (c : mm_C) : mR Int32 :=
  cV 12 v0 c (fX12_is N v0 (1000000 + 31) c) fun r1 c2 => if r1 = 0 then (cV 12 v0 c2 (fX12_is N v0 (1000000 + 32) c2) fun r3 c4 => if r3 = 0 then (cV 12 v0 c4 (fX12_is N v0 (1000000 + 33) c4) fun r5 c6 => if r5 = 0 then (bX12_readLine_43 N  v0 v1 (0 : Int32) c6) else (bX12_readLine_43 N  v0 v1 (4 : Int32) c6)) else (bX12_readLine_43 N  v0 v1 (2 : Int32) c4)) else (bX12_readLine_43 N  v0 v1 (1 : Int32) c2)
set_option maxRecDepth 100000 in
theorem wX12_readLine_0 {Z : mm_Z} {X : mm_T} {k w mc ms d n N : Nat} {Q : mm_O → mm_H → Prop} (C : mm_Ok Z qX12_readLine X) (hRm : mt_R X = mm_rm d mc ms) (hd : 86 ≤ d) (hn : n + 1 < 1000000) (hk : k + 1 ≤ mc) (hw : w + 6 ≤ ms) {v0 : Nat} {v1 : Int32} {c : mm_C} (hf : hO 0 ovI n (bX12_readLine_0 N  v0 v1 c) Q) : mG Z qX12_readLine X k w mc ms Q (0, [(0, .ref v0), (1, .int v1)], [], (n, c)) := by
  unfold bX12_readLine_0 at hf
  refine mg_aload_n C rfl rfl ?_
  refine mg_ldcSw (i := 31) (tx := "day") C rfl (by decide) ?_
  refine mh_cVI (M' := qX12_is) C rfl rfl aX12_is iX12_is sX12_is hRm (by omega) (by decide) (by omega) (by omega) rfl rfl rfl (Nat.le_of_ble_eq_true rfl) rfl hf (fun hs => wX12_is (by omega) (by omega) hs) (fun r1 c2 hf => ?_)
  refine mh_if_eq C rfl hf (fun e_7 hf => ?_) (fun e_7 hf => ?_)
  · refine mg_aload_n C rfl rfl ?_
    refine mg_ldcSw (i := 32) (tx := "move") C rfl (by decide) ?_
    refine mh_cVI (M' := qX12_is) C rfl rfl aX12_is iX12_is sX12_is hRm (by omega) (by decide) (by omega) (by omega) rfl rfl rfl (Nat.le_of_ble_eq_true rfl) rfl hf (fun hs => wX12_is (by omega) (by omega) hs) (fun r3 c4 hf => ?_)
    refine mh_if_eq C rfl hf (fun e_21 hf => ?_) (fun e_21 hf => ?_)
    · refine mg_aload_n C rfl rfl ?_
      refine mg_ldcSw (i := 33) (tx := "cold") C rfl (by decide) ?_
      refine mh_cVI (M' := qX12_is) C rfl rfl aX12_is iX12_is sX12_is hRm (by omega) (by decide) (by omega) (by omega) rfl rfl rfl (Nat.le_of_ble_eq_true rfl) rfl hf (fun hs => wX12_is (by omega) (by omega) hs) (fun r5 c6 hf => ?_)
      refine mh_if_eq C rfl hf (fun e_35 hf => ?_) (fun e_35 hf => ?_)
      · refine mg_iconst (v := 0) C rfl (by decide) ?_
        exact wX12_readLine_43 C hRm hd hn hk hw hf
      · refine mg_iconst (v := 4) C rfl (by decide) ?_
        refine mg_goto C rfl ?_
        exact wX12_readLine_43 C hRm hd hn hk hw hf
    · refine mg_iconst (v := 2) C rfl (by decide) ?_
      refine mg_goto C rfl ?_
      exact wX12_readLine_43 C hRm hd hn hk hw hf
  · refine mg_iconst (v := 1) C rfl (by decide) ?_
    refine mg_goto C rfl ?_
    exact wX12_readLine_43 C hRm hd hn hk hw hf
def fX12_readLine (N : Nat) (v0 : Nat) (v1 : Int32) (c : mm_C) : mR Int32 := bX12_readLine_0 N v0 v1 c
set_option maxRecDepth 100000 in
theorem wX12_readLine {Z : mm_Z} {d n N : Nat} (hd : 86 ≤ d) (hn : n + 1 < 1000000) {v0 : Nat} {v1 : Int32} {c : mm_C} (hs : (fX12_readLine N v0 v1 c).isSome = true) : mC Z qX12_readLine d 1 6 [.ref v0, .int v1] (n, c) (mP 0 ovI n (fX12_readLine N v0 v1 c)) := by
  refine mC_of gX12_readLine (by decide +kernel) (Nat.le_of_ble_eq_true rfl) fun X C hRm => ?_
  have hf := hO_mP 0 ovI n hs
  have hk : 0 + 1 ≤ 1 := Nat.le_of_ble_eq_true rfl
  have hw : 0 + 6 ≤ 6 := Nat.le_of_ble_eq_true rfl
  show mG _ _ _ _ _ _ _ _ (0, [(0, .ref v0), (1, .int v1)], [], (n, c))
  exact wX12_readLine_0 C hRm hd hn hk hw hf
def bX12_takeHalf_2 (N : Nat)  (k2 : Nat → Int32 → mm_C → mR Unit) (v0 : Nat) (v1 : Int32) (c : mm_C) : mR Unit :=
  Option.bind (aN c v0) fun x1 => Option.bind (dvI x1 (2 : Int32)) fun x2 => if x2 ≤ v1 then (some (.inl (), c)) else (Option.bind (aN c v0) fun x3 => Option.bind (dvI x3 (2 : Int32)) fun x4 => Option.bind (aI c v0 (x4 + v1)) fun x5 => Option.bind (tI c v0 v1 x5) fun c6 => k2 v0 (v1 + 1) c6)
set_option maxRecDepth 100000 in
theorem wX12_takeHalf_2 {Z : mm_Z} {X : mm_T} {k w mc ms d n N : Nat} {Q : mm_O → mm_H → Prop} (C : mm_Ok Z qX12_takeHalf X) (hRm : mt_R X = mm_rm d mc ms) (hd : 1 ≤ d) (hn : n + 1 < 1000000) (hk : k + 1 ≤ mc) (hw : w + 6 ≤ ms) {k2 : Nat → Int32 → mm_C → mR Unit} (hk2 : ∀ (v0 : Nat) (v1 : Int32) (c : mm_C), hO 0 ovU n (k2 v0 v1 c) Q → mG Z qX12_takeHalf X k w mc ms Q (2, [(0, .ref v0), (1, .int v1)], [], (n, c))) {v0 : Nat} {v1 : Int32} {c : mm_C} (hf : hO 0 ovU n (bX12_takeHalf_2 N  k2 v0 v1 c) Q) : mG Z qX12_takeHalf X k w mc ms Q (2, [(0, .ref v0), (1, .int v1)], [], (n, c)) := by
  unfold bX12_takeHalf_2 at hf
  refine mg_iload_n C rfl rfl ?_
  refine mg_aload_n C rfl rfl ?_
  refine mh_aN C rfl hf (fun x1 hf => ?_)
  refine mg_iconst (v := 2) C rfl (by decide) ?_
  refine mh_idiv C rfl hf (fun x2 hf => ?_)
  refine mh_icmp_ge C rfl hf (fun e_7 hf => ?_) (fun e_7 hf => ?_)
  · exact mh_return C rfl (by omega) (by omega) rfl hf
  · refine mg_aload_n C rfl rfl ?_
    refine mg_iload_n C rfl rfl ?_
    refine mg_aload_n C rfl rfl ?_
    refine mg_aload_n C rfl rfl ?_
    refine mh_aN C rfl hf (fun x3 hf => ?_)
    refine mg_iconst (v := 2) C rfl (by decide) ?_
    refine mh_idiv C rfl hf (fun x4 hf => ?_)
    refine mg_iload_n C rfl rfl ?_
    refine mg_iadd C rfl ?_
    refine mh_aI C rfl hf (fun x5 hf => ?_)
    refine mh_tI C rfl hf (fun c6 hf => ?_)
    refine mg_iinc (lv' := [(0, .ref v0), (1, .int (v1 + 1))]) C rfl (Nat.le_of_ble_eq_true rfl) rfl (show _ + Int32.ofInt 1 = _ + 1 by congr 1) rfl ?_
    refine mg_goto C rfl ?_
    exact hk2 _ _ _ hf
def lX12_takeHalf_2 (N : Nat)  : Nat → Nat → Int32 → mm_C → mR Unit
  | 0, _, _, _ => none
  | m + 1, v0, v1, c => bX12_takeHalf_2 N  (lX12_takeHalf_2 N  m) v0 v1 c
theorem WX12_takeHalf_2 {Z : mm_Z} {X : mm_T} {k w mc ms d n N : Nat} {Q : mm_O → mm_H → Prop} (C : mm_Ok Z qX12_takeHalf X) (hRm : mt_R X = mm_rm d mc ms) (hd : 1 ≤ d) (hn : n + 1 < 1000000) (hk : k + 1 ≤ mc) (hw : w + 6 ≤ ms) : ∀ (m : Nat) {v0 : Nat} {v1 : Int32} {c : mm_C} (hf : hO 0 ovU n (lX12_takeHalf_2 N  m v0 v1 c) Q), mG Z qX12_takeHalf X k w mc ms Q (2, [(0, .ref v0), (1, .int v1)], [], (n, c)) := by
  intro m
  induction m with
  | zero => intro v0 v1 c hf; exact absurd hf hO_none
  | succ m ih => intro v0 v1 c hf; exact wX12_takeHalf_2 C hRm hd hn hk hw (fun v0 v1 c hf => ih hf) hf
def bX12_takeHalf_0 (N : Nat)  (v0 : Nat) (c : mm_C) : mR Unit :=
  lX12_takeHalf_2 N  N v0 (0 : Int32) c
set_option maxRecDepth 100000 in
theorem wX12_takeHalf_0 {Z : mm_Z} {X : mm_T} {k w mc ms d n N : Nat} {Q : mm_O → mm_H → Prop} (C : mm_Ok Z qX12_takeHalf X) (hRm : mt_R X = mm_rm d mc ms) (hd : 1 ≤ d) (hn : n + 1 < 1000000) (hk : k + 1 ≤ mc) (hw : w + 6 ≤ ms) {v0 : Nat} {c : mm_C} (hf : hO 0 ovU n (bX12_takeHalf_0 N  v0 c) Q) : mG Z qX12_takeHalf X k w mc ms Q (0, [(0, .ref v0)], [], (n, c)) := by
  unfold bX12_takeHalf_0 at hf
  refine mg_iconst (v := 0) C rfl (by decide) ?_
  refine mg_istore_n (lv' := [(0, .ref v0), (1, .int (0 : Int32))]) C rfl (Nat.le_of_ble_eq_true rfl) rfl ?_
  exact WX12_takeHalf_2 C hRm hd hn hk hw N hf
def fX12_takeHalf (N : Nat) (v0 : Nat) (c : mm_C) : mR Unit := bX12_takeHalf_0 N v0 c
set_option maxRecDepth 100000 in
theorem wX12_takeHalf {Z : mm_Z} {d n N : Nat} (hd : 1 ≤ d) (hn : n + 1 < 1000000) {v0 : Nat} {c : mm_C} (hs : (fX12_takeHalf N v0 c).isSome = true) : mC Z qX12_takeHalf d 1 6 [.ref v0] (n, c) (mP 0 ovU n (fX12_takeHalf N v0 c)) := by
  refine mC_of gX12_takeHalf (by decide +kernel) (Nat.le_of_ble_eq_true rfl) fun X C hRm => ?_
  have hf := hO_mP 0 ovU n hs
  have hk : 0 + 1 ≤ 1 := Nat.le_of_ble_eq_true rfl
  have hw : 0 + 6 ≤ 6 := Nat.le_of_ble_eq_true rfl
  show mG _ _ _ _ _ _ _ _ (0, [(0, .ref v0)], [], (n, c))
  exact wX12_takeHalf_0 C hRm hd hn hk hw hf
def bX12_takeOver_98 (N : Nat)  (v0 : Nat) (c : mm_C) : mR Unit :=
  Option.bind (pI c v0 12 28 (0 : Int32)) fun c1 => Option.bind (pI c1 v0 12 29 (0 : Int32)) fun c2 => Option.bind (pZ c2 v0 12 52 (0 : Int32)) fun c3 => some (.inl (), c3)
set_option maxRecDepth 100000 in
theorem wX12_takeOver_98 {Z : mm_Z} {X : mm_T} {k w mc ms d n N : Nat} {Q : mm_O → mm_H → Prop} (C : mm_Ok Z qX12_takeOver X) (hRm : mt_R X = mm_rm d mc ms) (hd : 2 ≤ d) (hn : n + 1 < 1000000) (hk : k + 1 ≤ mc) (hw : w + 6 ≤ ms) {v0 : Nat} {c : mm_C} (hf : hO 0 ovU n (bX12_takeOver_98 N  v0 c) Q) : mG Z qX12_takeOver X k w mc ms Q (98, [(0, .ref v0)], [], (n, c)) := by
  unfold bX12_takeOver_98 at hf
  refine mg_aload_n C rfl rfl ?_
  refine mg_iconst (v := 0) C rfl (by decide) ?_
  refine mh_pI C rfl rfl rfl (by decide) rfl rfl rfl hf (fun c1 hf => ?_)
  refine mg_aload_n C rfl rfl ?_
  refine mg_iconst (v := 0) C rfl (by decide) ?_
  refine mh_pI C rfl rfl rfl (by decide) rfl rfl rfl hf (fun c2 hf => ?_)
  refine mg_aload_n C rfl rfl ?_
  refine mg_iconst (v := 0) C rfl (by decide) ?_
  refine mh_pZ C rfl rfl rfl (by decide) rfl rfl hf (fun c3 hf => ?_)
  exact mh_return C rfl (by omega) (by omega) rfl hf
def bX12_takeOver_79 (N : Nat)  (k79 : Nat → Int32 → mm_C → mR Unit) (v0 : Nat) (v1 : Int32) (c : mm_C) : mR Unit :=
  if (15 : Int32) ≤ v1 then (bX12_takeOver_98 N  v0 c) else (Option.bind (gR c v0 12 26) fun x1 => Option.bind (tI c x1 v1 (0 : Int32)) fun c2 => k79 v0 (v1 + 1) c2)
set_option maxRecDepth 100000 in
theorem wX12_takeOver_79 {Z : mm_Z} {X : mm_T} {k w mc ms d n N : Nat} {Q : mm_O → mm_H → Prop} (C : mm_Ok Z qX12_takeOver X) (hRm : mt_R X = mm_rm d mc ms) (hd : 2 ≤ d) (hn : n + 1 < 1000000) (hk : k + 1 ≤ mc) (hw : w + 6 ≤ ms) {k79 : Nat → Int32 → mm_C → mR Unit} (hk79 : ∀ (v0 : Nat) (v1 : Int32) (c : mm_C), hO 0 ovU n (k79 v0 v1 c) Q → mG Z qX12_takeOver X k w mc ms Q (79, [(0, .ref v0), (1, .int v1)], [], (n, c))) {v0 : Nat} {v1 : Int32} {c : mm_C} (hf : hO 0 ovU n (bX12_takeOver_79 N  k79 v0 v1 c) Q) : mG Z qX12_takeOver X k w mc ms Q (79, [(0, .ref v0), (1, .int v1)], [], (n, c)) := by
  unfold bX12_takeOver_79 at hf
  refine mg_iload_n C rfl rfl ?_
  refine mg_bipush (v := 15) C rfl (by decide) ?_
  refine mh_icmp_ge C rfl hf (fun e_82 hf => ?_) (fun e_82 hf => ?_)
  · refine mg_sub (lv' := [(0, .ref v0)]) (by simp) ?_
    exact wX12_takeOver_98 C hRm hd hn hk hw hf
  · refine mg_aload_n C rfl rfl ?_
    refine mh_gR C rfl rfl rfl (by decide) hf (fun x1 hf => ?_)
    refine mg_iload_n C rfl rfl ?_
    refine mg_iconst (v := 0) C rfl (by decide) ?_
    refine mh_tI C rfl hf (fun c2 hf => ?_)
    refine mg_iinc (lv' := [(0, .ref v0), (1, .int (v1 + 1))]) C rfl (Nat.le_of_ble_eq_true rfl) rfl (show _ + Int32.ofInt 1 = _ + 1 by congr 1) rfl ?_
    refine mg_goto C rfl ?_
    exact hk79 _ _ _ hf
def lX12_takeOver_79 (N : Nat)  : Nat → Nat → Int32 → mm_C → mR Unit
  | 0, _, _, _ => none
  | m + 1, v0, v1, c => bX12_takeOver_79 N  (lX12_takeOver_79 N  m) v0 v1 c
theorem WX12_takeOver_79 {Z : mm_Z} {X : mm_T} {k w mc ms d n N : Nat} {Q : mm_O → mm_H → Prop} (C : mm_Ok Z qX12_takeOver X) (hRm : mt_R X = mm_rm d mc ms) (hd : 2 ≤ d) (hn : n + 1 < 1000000) (hk : k + 1 ≤ mc) (hw : w + 6 ≤ ms) : ∀ (m : Nat) {v0 : Nat} {v1 : Int32} {c : mm_C} (hf : hO 0 ovU n (lX12_takeOver_79 N  m v0 v1 c) Q), mG Z qX12_takeOver X k w mc ms Q (79, [(0, .ref v0), (1, .int v1)], [], (n, c)) := by
  intro m
  induction m with
  | zero => intro v0 v1 c hf; exact absurd hf hO_none
  | succ m ih => intro v0 v1 c hf; exact wX12_takeOver_79 C hRm hd hn hk hw (fun v0 v1 c hf => ih hf) hf
def bX12_takeOver_0 (N : Nat)  (v0 : Nat) (c : mm_C) : mR Unit :=
  Option.bind (gR c v0 12 3) fun x1 => cS (fX12_takeHalf N x1 c) fun (_ : Unit) c2 => Option.bind (gR c2 v0 12 4) fun x3 => cS (fX12_takeHalf N x3 c2) fun (_ : Unit) c4 => Option.bind (gR c4 v0 12 5) fun x5 => cS (fX12_takeHalf N x5 c4) fun (_ : Unit) c6 => Option.bind (gR c6 v0 12 6) fun x7 => cS (fX12_takeHalf N x7 c6) fun (_ : Unit) c8 => Option.bind (gR c8 v0 12 7) fun x9 => cS (fX12_takeHalf N x9 c8) fun (_ : Unit) c10 => Option.bind (gR c10 v0 12 8) fun x11 => cS (fX12_takeHalf N x11 c10) fun (_ : Unit) c12 => Option.bind (gR c12 v0 12 9) fun x13 => cS (fX12_takeHalf N x13 c12) fun (_ : Unit) c14 => Option.bind (gR c14 v0 12 10) fun x15 => cS (fX12_takeHalf N x15 c14) fun (_ : Unit) c16 => Option.bind (gR c16 v0 12 11) fun x17 => cS (fX12_takeHalf N x17 c16) fun (_ : Unit) c18 => Option.bind (gR c18 v0 12 12) fun x19 => cS (fX12_takeHalf N x19 c18) fun (_ : Unit) c20 => Option.bind (gR c20 v0 12 13) fun x21 => cS (fX12_takeHalf N x21 c20) fun (_ : Unit) c22 => lX12_takeOver_79 N  N v0 (0 : Int32) c22
set_option maxRecDepth 100000 in
theorem wX12_takeOver_0 {Z : mm_Z} {X : mm_T} {k w mc ms d n N : Nat} {Q : mm_O → mm_H → Prop} (C : mm_Ok Z qX12_takeOver X) (hRm : mt_R X = mm_rm d mc ms) (hd : 2 ≤ d) (hn : n + 1 < 1000000) (hk : k + 1 ≤ mc) (hw : w + 6 ≤ ms) {v0 : Nat} {c : mm_C} (hf : hO 0 ovU n (bX12_takeOver_0 N  v0 c) Q) : mG Z qX12_takeOver X k w mc ms Q (0, [(0, .ref v0)], [], (n, c)) := by
  unfold bX12_takeOver_0 at hf
  refine mg_aload_n C rfl rfl ?_
  refine mh_gR C rfl rfl rfl (by decide) hf (fun x1 hf => ?_)
  refine mh_cSU (M' := qX12_takeHalf) C rfl rfl aX12_takeHalf tX12_takeHalf hRm (by omega) (by decide) (by omega) (by omega) rfl rfl (Nat.le_of_ble_eq_true rfl) rfl hf (fun hs => wX12_takeHalf (by omega) (by omega) hs) (fun c2 hf => ?_)
  refine mg_aload_n C rfl rfl ?_
  refine mh_gR C rfl rfl rfl (by decide) hf (fun x3 hf => ?_)
  refine mh_cSU (M' := qX12_takeHalf) C rfl rfl aX12_takeHalf tX12_takeHalf hRm (by omega) (by decide) (by omega) (by omega) rfl rfl (Nat.le_of_ble_eq_true rfl) rfl hf (fun hs => wX12_takeHalf (by omega) (by omega) hs) (fun c4 hf => ?_)
  refine mg_aload_n C rfl rfl ?_
  refine mh_gR C rfl rfl rfl (by decide) hf (fun x5 hf => ?_)
  refine mh_cSU (M' := qX12_takeHalf) C rfl rfl aX12_takeHalf tX12_takeHalf hRm (by omega) (by decide) (by omega) (by omega) rfl rfl (Nat.le_of_ble_eq_true rfl) rfl hf (fun hs => wX12_takeHalf (by omega) (by omega) hs) (fun c6 hf => ?_)
  refine mg_aload_n C rfl rfl ?_
  refine mh_gR C rfl rfl rfl (by decide) hf (fun x7 hf => ?_)
  refine mh_cSU (M' := qX12_takeHalf) C rfl rfl aX12_takeHalf tX12_takeHalf hRm (by omega) (by decide) (by omega) (by omega) rfl rfl (Nat.le_of_ble_eq_true rfl) rfl hf (fun hs => wX12_takeHalf (by omega) (by omega) hs) (fun c8 hf => ?_)
  refine mg_aload_n C rfl rfl ?_
  refine mh_gR C rfl rfl rfl (by decide) hf (fun x9 hf => ?_)
  refine mh_cSU (M' := qX12_takeHalf) C rfl rfl aX12_takeHalf tX12_takeHalf hRm (by omega) (by decide) (by omega) (by omega) rfl rfl (Nat.le_of_ble_eq_true rfl) rfl hf (fun hs => wX12_takeHalf (by omega) (by omega) hs) (fun c10 hf => ?_)
  refine mg_aload_n C rfl rfl ?_
  refine mh_gR C rfl rfl rfl (by decide) hf (fun x11 hf => ?_)
  refine mh_cSU (M' := qX12_takeHalf) C rfl rfl aX12_takeHalf tX12_takeHalf hRm (by omega) (by decide) (by omega) (by omega) rfl rfl (Nat.le_of_ble_eq_true rfl) rfl hf (fun hs => wX12_takeHalf (by omega) (by omega) hs) (fun c12 hf => ?_)
  refine mg_aload_n C rfl rfl ?_
  refine mh_gR C rfl rfl rfl (by decide) hf (fun x13 hf => ?_)
  refine mh_cSU (M' := qX12_takeHalf) C rfl rfl aX12_takeHalf tX12_takeHalf hRm (by omega) (by decide) (by omega) (by omega) rfl rfl (Nat.le_of_ble_eq_true rfl) rfl hf (fun hs => wX12_takeHalf (by omega) (by omega) hs) (fun c14 hf => ?_)
  refine mg_aload_n C rfl rfl ?_
  refine mh_gR C rfl rfl rfl (by decide) hf (fun x15 hf => ?_)
  refine mh_cSU (M' := qX12_takeHalf) C rfl rfl aX12_takeHalf tX12_takeHalf hRm (by omega) (by decide) (by omega) (by omega) rfl rfl (Nat.le_of_ble_eq_true rfl) rfl hf (fun hs => wX12_takeHalf (by omega) (by omega) hs) (fun c16 hf => ?_)
  refine mg_aload_n C rfl rfl ?_
  refine mh_gR C rfl rfl rfl (by decide) hf (fun x17 hf => ?_)
  refine mh_cSU (M' := qX12_takeHalf) C rfl rfl aX12_takeHalf tX12_takeHalf hRm (by omega) (by decide) (by omega) (by omega) rfl rfl (Nat.le_of_ble_eq_true rfl) rfl hf (fun hs => wX12_takeHalf (by omega) (by omega) hs) (fun c18 hf => ?_)
  refine mg_aload_n C rfl rfl ?_
  refine mh_gR C rfl rfl rfl (by decide) hf (fun x19 hf => ?_)
  refine mh_cSU (M' := qX12_takeHalf) C rfl rfl aX12_takeHalf tX12_takeHalf hRm (by omega) (by decide) (by omega) (by omega) rfl rfl (Nat.le_of_ble_eq_true rfl) rfl hf (fun hs => wX12_takeHalf (by omega) (by omega) hs) (fun c20 hf => ?_)
  refine mg_aload_n C rfl rfl ?_
  refine mh_gR C rfl rfl rfl (by decide) hf (fun x21 hf => ?_)
  refine mh_cSU (M' := qX12_takeHalf) C rfl rfl aX12_takeHalf tX12_takeHalf hRm (by omega) (by decide) (by omega) (by omega) rfl rfl (Nat.le_of_ble_eq_true rfl) rfl hf (fun hs => wX12_takeHalf (by omega) (by omega) hs) (fun c22 hf => ?_)
  refine mg_iconst (v := 0) C rfl (by decide) ?_
  refine mg_istore_n (lv' := [(0, .ref v0), (1, .int (0 : Int32))]) C rfl (Nat.le_of_ble_eq_true rfl) rfl ?_
  exact WX12_takeOver_79 C hRm hd hn hk hw N hf
def fX12_takeOver (N : Nat) (v0 : Nat) (c : mm_C) : mR Unit := bX12_takeOver_0 N v0 c
set_option maxRecDepth 100000 in
theorem wX12_takeOver {Z : mm_Z} {d n N : Nat} (hd : 2 ≤ d) (hn : n + 1 < 1000000) {v0 : Nat} {c : mm_C} (hs : (fX12_takeOver N v0 c).isSome = true) : mC Z qX12_takeOver d 1 6 [.ref v0] (n, c) (mP 0 ovU n (fX12_takeOver N v0 c)) := by
  refine mC_of gX12_takeOver (by decide +kernel) (Nat.le_of_ble_eq_true rfl) fun X C hRm => ?_
  have hf := hO_mP 0 ovU n hs
  have hk : 0 + 1 ≤ 1 := Nat.le_of_ble_eq_true rfl
  have hw : 0 + 6 ≤ 6 := Nat.le_of_ble_eq_true rfl
  show mG _ _ _ _ _ _ _ _ (0, [(0, .ref v0)], [], (n, c))
  exact wX12_takeOver_0 C hRm hd hn hk hw hf
def bX12_plan_157 (N : Nat)  (v0 : Nat) (c : mm_C) : mR Int32 :=
  Option.bind (gI c v0 12 23) fun x1 => if x1 = 0 then (cV 12 v0 c (fX12_takeOver N v0 c) fun (_ : Unit) c2 => some (.inl (0 : Int32), c2)) else (Option.bind (gI c v0 12 24) fun x3 => Option.bind (pI c v0 12 25 x3) fun c4 => Option.bind (gR c4 v0 12 14) fun x5 => Option.bind (aI c4 x5 (0 : Int32)) fun x6 => Option.bind (tI c4 x5 (0 : Int32) (x6 + (1 : Int32))) fun c7 => Option.bind (gI c7 v0 12 23) fun x8 => some (.inl x8, c7))
set_option maxRecDepth 100000 in
theorem wX12_plan_157 {Z : mm_Z} {X : mm_T} {k w mc ms d n N : Nat} {Q : mm_O → mm_H → Prop} (C : mm_Ok Z qX12_plan X) (hRm : mt_R X = mm_rm d mc ms) (hd : 87 ≤ d) (hn : n + 1 < 1000000) (hk : k + 1 ≤ mc) (hw : w + 6 ≤ ms) {v0 : Nat} {c : mm_C} (hf : hO 0 ovI n (bX12_plan_157 N  v0 c) Q) : mG Z qX12_plan X k w mc ms Q (157, [(0, .ref v0)], [], (n, c)) := by
  unfold bX12_plan_157 at hf
  refine mg_aload_n C rfl rfl ?_
  refine mh_gI C rfl rfl rfl (by decide) hf (fun x1 hf => ?_)
  refine mh_if_eq C rfl hf (fun e_161 hf => ?_) (fun e_161 hf => ?_)
  · refine mg_aload_n C rfl rfl ?_
    refine mh_cVU (M' := qX12_takeOver) C rfl rfl aX12_takeOver iX12_takeOver sX12_takeOver hRm (by omega) (by decide) (by omega) (by omega) rfl rfl rfl (Nat.le_of_ble_eq_true rfl) rfl hf (fun hs => wX12_takeOver (by omega) (by omega) hs) (fun c2 hf => ?_)
    refine mg_iconst (v := 0) C rfl (by decide) ?_
    exact mh_ireturn C rfl (by omega) (by omega) rfl hf
  · refine mg_aload_n C rfl rfl ?_
    refine mg_aload_n C rfl rfl ?_
    refine mh_gI C rfl rfl rfl (by decide) hf (fun x3 hf => ?_)
    refine mh_pI C rfl rfl rfl (by decide) rfl rfl rfl hf (fun c4 hf => ?_)
    refine mg_aload_n C rfl rfl ?_
    refine mh_gR C rfl rfl rfl (by decide) hf (fun x5 hf => ?_)
    refine mg_iconst (v := 0) C rfl (by decide) ?_
    refine mg_dup2 C rfl rfl rfl ?_
    refine mh_aI C rfl hf (fun x6 hf => ?_)
    refine mg_iconst (v := 1) C rfl (by decide) ?_
    refine mg_iadd C rfl ?_
    refine mh_tI C rfl hf (fun c7 hf => ?_)
    refine mg_aload_n C rfl rfl ?_
    refine mh_gI C rfl rfl rfl (by decide) hf (fun x8 hf => ?_)
    exact mh_ireturn C rfl (by omega) (by omega) rfl hf
def bX12_plan_134 (N : Nat)  (k134 : Nat → Int32 → mm_C → mR Int32) (v0 : Nat) (v2 : Int32) (c : mm_C) : mR Int32 :=
  Option.bind (gI c v0 12 23) fun x1 => if ¬ x1 = 0 then (bX12_plan_157 N  v0 c) else (Option.bind (gI c v0 12 19) fun x2 => if x2 = 0 then (bX12_plan_157 N  v0 c) else (cV 12 v0 c (fX12_readLine N v0 v2 c) fun r3 c4 => k134 v0 r3 c4))
set_option maxRecDepth 100000 in
theorem wX12_plan_134 {Z : mm_Z} {X : mm_T} {k w mc ms d n N : Nat} {Q : mm_O → mm_H → Prop} (C : mm_Ok Z qX12_plan X) (hRm : mt_R X = mm_rm d mc ms) (hd : 87 ≤ d) (hn : n + 1 < 1000000) (hk : k + 1 ≤ mc) (hw : w + 6 ≤ ms) {k134 : Nat → Int32 → mm_C → mR Int32} (hk134 : ∀ (v0 : Nat) (v2 : Int32) (c : mm_C), hO 0 ovI n (k134 v0 v2 c) Q → mG Z qX12_plan X k w mc ms Q (134, [(0, .ref v0), (2, .int v2)], [], (n, c))) {v0 : Nat} {v2 : Int32} {c : mm_C} (hf : hO 0 ovI n (bX12_plan_134 N  k134 v0 v2 c) Q) : mG Z qX12_plan X k w mc ms Q (134, [(0, .ref v0), (2, .int v2)], [], (n, c)) := by
  unfold bX12_plan_134 at hf
  refine mg_aload_n C rfl rfl ?_
  refine mh_gI C rfl rfl rfl (by decide) hf (fun x1 hf => ?_)
  refine mh_if_ne C rfl hf (fun e_138 hf => ?_) (fun e_138 hf => ?_)
  · refine mg_sub (lv' := [(0, .ref v0)]) (by simp) ?_
    exact wX12_plan_157 C hRm hd hn hk hw hf
  · refine mg_aload_n C rfl rfl ?_
    refine mh_gI C rfl rfl rfl (by decide) hf (fun x2 hf => ?_)
    refine mh_if_eq C rfl hf (fun e_145 hf => ?_) (fun e_145 hf => ?_)
    · refine mg_sub (lv' := [(0, .ref v0)]) (by simp) ?_
      exact wX12_plan_157 C hRm hd hn hk hw hf
    · refine mg_aload_n C rfl rfl ?_
      refine mg_iload_n C rfl rfl ?_
      refine mh_cVI (M' := qX12_readLine) C rfl rfl aX12_readLine iX12_readLine sX12_readLine hRm (by omega) (by decide) (by omega) (by omega) rfl rfl rfl (Nat.le_of_ble_eq_true rfl) rfl hf (fun hs => wX12_readLine (by omega) (by omega) hs) (fun r3 c4 hf => ?_)
      refine mg_istore_n (lv' := [(0, .ref v0), (2, .int r3)]) C rfl (Nat.le_of_ble_eq_true rfl) rfl ?_
      refine mg_goto C rfl ?_
      exact hk134 _ _ _ hf
def lX12_plan_134 (N : Nat)  : Nat → Nat → Int32 → mm_C → mR Int32
  | 0, _, _, _ => none
  | m + 1, v0, v2, c => bX12_plan_134 N  (lX12_plan_134 N  m) v0 v2 c
theorem WX12_plan_134 {Z : mm_Z} {X : mm_T} {k w mc ms d n N : Nat} {Q : mm_O → mm_H → Prop} (C : mm_Ok Z qX12_plan X) (hRm : mt_R X = mm_rm d mc ms) (hd : 87 ≤ d) (hn : n + 1 < 1000000) (hk : k + 1 ≤ mc) (hw : w + 6 ≤ ms) : ∀ (m : Nat) {v0 : Nat} {v2 : Int32} {c : mm_C} (hf : hO 0 ovI n (lX12_plan_134 N  m v0 v2 c) Q), mG Z qX12_plan X k w mc ms Q (134, [(0, .ref v0), (2, .int v2)], [], (n, c)) := by
  intro m
  induction m with
  | zero => intro v0 v2 c hf; exact absurd hf hO_none
  | succ m ih => intro v0 v2 c hf; exact wX12_plan_134 C hRm hd hn hk hw (fun v0 v2 c hf => ih hf) hf
def bX12_plan_128 (N : Nat)  (v0 : Nat) (c : mm_C) : mR Int32 :=
  cV 12 v0 c (fX12_stepOn N v0 c) fun (_ : Unit) c1 => lX12_plan_134 N  N v0 (0 : Int32) c1
set_option maxRecDepth 100000 in
theorem wX12_plan_128 {Z : mm_Z} {X : mm_T} {k w mc ms d n N : Nat} {Q : mm_O → mm_H → Prop} (C : mm_Ok Z qX12_plan X) (hRm : mt_R X = mm_rm d mc ms) (hd : 87 ≤ d) (hn : n + 1 < 1000000) (hk : k + 1 ≤ mc) (hw : w + 6 ≤ ms) {v0 : Nat} {c : mm_C} (hf : hO 0 ovI n (bX12_plan_128 N  v0 c) Q) : mG Z qX12_plan X k w mc ms Q (128, [(0, .ref v0)], [], (n, c)) := by
  unfold bX12_plan_128 at hf
  refine mg_aload_n C rfl rfl ?_
  refine mh_cVU (M' := qX12_stepOn) C rfl rfl aX12_stepOn iX12_stepOn sX12_stepOn hRm (by omega) (by decide) (by omega) (by omega) rfl rfl rfl (Nat.le_of_ble_eq_true rfl) rfl hf (fun hs => wX12_stepOn (by omega) (by omega) hs) (fun c1 hf => ?_)
  refine mg_iconst (v := 0) C rfl (by decide) ?_
  refine mg_istore_n (lv' := [(0, .ref v0), (2, .int (0 : Int32))]) C rfl (Nat.le_of_ble_eq_true rfl) rfl ?_
  exact WX12_plan_134 C hRm hd hn hk hw N hf
def bX12_plan_104 (N : Nat)  (k104 : Nat → Int32 → mm_C → mR Int32) (v0 : Nat) (v2 : Int32) (c : mm_C) : mR Int32 :=
  if (480 : Int32) ≤ v2 then (bX12_plan_128 N  v0 c) else (Option.bind (gR c v0 12 10) fun x1 => Option.bind (tI c x1 ((480 : Int32) + v2) (0 : Int32)) fun c2 => k104 v0 (v2 + 1) c2)
set_option maxRecDepth 100000 in
theorem wX12_plan_104 {Z : mm_Z} {X : mm_T} {k w mc ms d n N : Nat} {Q : mm_O → mm_H → Prop} (C : mm_Ok Z qX12_plan X) (hRm : mt_R X = mm_rm d mc ms) (hd : 87 ≤ d) (hn : n + 1 < 1000000) (hk : k + 1 ≤ mc) (hw : w + 6 ≤ ms) {k104 : Nat → Int32 → mm_C → mR Int32} (hk104 : ∀ (v0 : Nat) (v2 : Int32) (c : mm_C), hO 0 ovI n (k104 v0 v2 c) Q → mG Z qX12_plan X k w mc ms Q (104, [(0, .ref v0), (2, .int v2)], [], (n, c))) {v0 : Nat} {v2 : Int32} {c : mm_C} (hf : hO 0 ovI n (bX12_plan_104 N  k104 v0 v2 c) Q) : mG Z qX12_plan X k w mc ms Q (104, [(0, .ref v0), (2, .int v2)], [], (n, c)) := by
  unfold bX12_plan_104 at hf
  refine mg_iload_n C rfl rfl ?_
  refine mg_sipush (v := 480) C rfl (by decide) ?_
  refine mh_icmp_ge C rfl hf (fun e_108 hf => ?_) (fun e_108 hf => ?_)
  · refine mg_sub (lv' := [(0, .ref v0)]) (by simp) ?_
    exact wX12_plan_128 C hRm hd hn hk hw hf
  · refine mg_aload_n C rfl rfl ?_
    refine mh_gR C rfl rfl rfl (by decide) hf (fun x1 hf => ?_)
    refine mg_sipush (v := 480) C rfl (by decide) ?_
    refine mg_iload_n C rfl rfl ?_
    refine mg_iadd C rfl ?_
    refine mg_iconst (v := 0) C rfl (by decide) ?_
    refine mh_tI C rfl hf (fun c2 hf => ?_)
    refine mg_iinc (lv' := [(0, .ref v0), (2, .int (v2 + 1))]) C rfl (Nat.le_of_ble_eq_true rfl) rfl (show _ + Int32.ofInt 1 = _ + 1 by congr 1) rfl ?_
    refine mg_goto C rfl ?_
    exact hk104 _ _ _ hf
def lX12_plan_104 (N : Nat)  : Nat → Nat → Int32 → mm_C → mR Int32
  | 0, _, _, _ => none
  | m + 1, v0, v2, c => bX12_plan_104 N  (lX12_plan_104 N  m) v0 v2 c
theorem WX12_plan_104 {Z : mm_Z} {X : mm_T} {k w mc ms d n N : Nat} {Q : mm_O → mm_H → Prop} (C : mm_Ok Z qX12_plan X) (hRm : mt_R X = mm_rm d mc ms) (hd : 87 ≤ d) (hn : n + 1 < 1000000) (hk : k + 1 ≤ mc) (hw : w + 6 ≤ ms) : ∀ (m : Nat) {v0 : Nat} {v2 : Int32} {c : mm_C} (hf : hO 0 ovI n (lX12_plan_104 N  m v0 v2 c) Q), mG Z qX12_plan X k w mc ms Q (104, [(0, .ref v0), (2, .int v2)], [], (n, c)) := by
  intro m
  induction m with
  | zero => intro v0 v2 c hf; exact absurd hf hO_none
  | succ m ih => intro v0 v2 c hf; exact wX12_plan_104 C hRm hd hn hk hw (fun v0 v2 c hf => ih hf) hf
def bX12_plan_102 (N : Nat)  (v0 : Nat) (c : mm_C) : mR Int32 :=
  lX12_plan_104 N  N v0 (0 : Int32) c
set_option maxRecDepth 100000 in
theorem wX12_plan_102 {Z : mm_Z} {X : mm_T} {k w mc ms d n N : Nat} {Q : mm_O → mm_H → Prop} (C : mm_Ok Z qX12_plan X) (hRm : mt_R X = mm_rm d mc ms) (hd : 87 ≤ d) (hn : n + 1 < 1000000) (hk : k + 1 ≤ mc) (hw : w + 6 ≤ ms) {v0 : Nat} {c : mm_C} (hf : hO 0 ovI n (bX12_plan_102 N  v0 c) Q) : mG Z qX12_plan X k w mc ms Q (102, [(0, .ref v0)], [], (n, c)) := by
  unfold bX12_plan_102 at hf
  refine mg_iconst (v := 0) C rfl (by decide) ?_
  refine mg_istore_n (lv' := [(0, .ref v0), (2, .int (0 : Int32))]) C rfl (Nat.le_of_ble_eq_true rfl) rfl ?_
  exact WX12_plan_104 C hRm hd hn hk hw N hf
def bX12_plan_95 (N : Nat)  (k50 : Nat → Int32 → mm_C → mR Int32) (v0 : Nat) (v2 : Int32) (s0 : Nat) (s1 : Int32) (s2 : Int32) (c : mm_C) : mR Int32 :=
  Option.bind (tI c s0 s1 s2) fun c1 => k50 v0 (v2 + 1) c1
set_option maxRecDepth 100000 in
theorem wX12_plan_95 {Z : mm_Z} {X : mm_T} {k w mc ms d n N : Nat} {Q : mm_O → mm_H → Prop} (C : mm_Ok Z qX12_plan X) (hRm : mt_R X = mm_rm d mc ms) (hd : 87 ≤ d) (hn : n + 1 < 1000000) (hk : k + 1 ≤ mc) (hw : w + 6 ≤ ms) {k50 : Nat → Int32 → mm_C → mR Int32} (hk50 : ∀ (v0 : Nat) (v2 : Int32) (c : mm_C), hO 0 ovI n (k50 v0 v2 c) Q → mG Z qX12_plan X k w mc ms Q (50, [(0, .ref v0), (2, .int v2)], [], (n, c))) {v0 : Nat} {v2 : Int32} {s0 : Nat} {s1 : Int32} {s2 : Int32} {c : mm_C} (hf : hO 0 ovI n (bX12_plan_95 N  k50 v0 v2 s0 s1 s2 c) Q) : mG Z qX12_plan X k w mc ms Q (95, [(0, .ref v0), (2, .int v2)], [.int s2, .int s1, .ref s0], (n, c)) := by
  unfold bX12_plan_95 at hf
  refine mh_tI C rfl hf (fun c1 hf => ?_)
  refine mg_iinc (lv' := [(0, .ref v0), (2, .int (v2 + 1))]) C rfl (Nat.le_of_ble_eq_true rfl) rfl (show _ + Int32.ofInt 1 = _ + 1 by congr 1) rfl ?_
  refine mg_goto C rfl ?_
  exact hk50 _ _ _ hf
def bX12_plan_50 (N : Nat)  (k50 : Nat → Int32 → mm_C → mR Int32) (v0 : Nat) (v2 : Int32) (c : mm_C) : mR Int32 :=
  if (8 : Int32) ≤ v2 then (bX12_plan_102 N  v0 c) else (Option.bind (gR c v0 12 3) fun x1 => if ¬ v2 = (1 : Int32) then (if ¬ v2 = (2 : Int32) then (if ¬ v2 = (3 : Int32) then (bX12_plan_95 N  k50 v0 v2 x1 ((8 : Int32) + v2) (0 : Int32) c) else (bX12_plan_95 N  k50 v0 v2 x1 ((8 : Int32) + v2) (1 : Int32) c)) else (bX12_plan_95 N  k50 v0 v2 x1 ((8 : Int32) + v2) (50 : Int32) c)) else (bX12_plan_95 N  k50 v0 v2 x1 ((8 : Int32) + v2) (240 : Int32) c))
set_option maxRecDepth 100000 in
theorem wX12_plan_50 {Z : mm_Z} {X : mm_T} {k w mc ms d n N : Nat} {Q : mm_O → mm_H → Prop} (C : mm_Ok Z qX12_plan X) (hRm : mt_R X = mm_rm d mc ms) (hd : 87 ≤ d) (hn : n + 1 < 1000000) (hk : k + 1 ≤ mc) (hw : w + 6 ≤ ms) {k50 : Nat → Int32 → mm_C → mR Int32} (hk50 : ∀ (v0 : Nat) (v2 : Int32) (c : mm_C), hO 0 ovI n (k50 v0 v2 c) Q → mG Z qX12_plan X k w mc ms Q (50, [(0, .ref v0), (2, .int v2)], [], (n, c))) {v0 : Nat} {v2 : Int32} {c : mm_C} (hf : hO 0 ovI n (bX12_plan_50 N  k50 v0 v2 c) Q) : mG Z qX12_plan X k w mc ms Q (50, [(0, .ref v0), (2, .int v2)], [], (n, c)) := by
  unfold bX12_plan_50 at hf
  refine mg_iload_n C rfl rfl ?_
  refine mg_bipush (v := 8) C rfl (by decide) ?_
  refine mh_icmp_ge C rfl hf (fun e_53 hf => ?_) (fun e_53 hf => ?_)
  · refine mg_sub (lv' := [(0, .ref v0)]) (by simp) ?_
    exact wX12_plan_102 C hRm hd hn hk hw hf
  · refine mg_aload_n C rfl rfl ?_
    refine mh_gR C rfl rfl rfl (by decide) hf (fun x1 hf => ?_)
    refine mg_bipush (v := 8) C rfl (by decide) ?_
    refine mg_iload_n C rfl rfl ?_
    refine mg_iadd C rfl ?_
    refine mg_iload_n C rfl rfl ?_
    refine mg_iconst (v := 1) C rfl (by decide) ?_
    refine mh_icmp_ne C rfl hf (fun e_66 hf => ?_) (fun e_66 hf => ?_)
    · refine mg_iload_n C rfl rfl ?_
      refine mg_iconst (v := 2) C rfl (by decide) ?_
      refine mh_icmp_ne C rfl hf (fun e_77 hf => ?_) (fun e_77 hf => ?_)
      · refine mg_iload_n C rfl rfl ?_
        refine mg_iconst (v := 3) C rfl (by decide) ?_
        refine mh_icmp_ne C rfl hf (fun e_87 hf => ?_) (fun e_87 hf => ?_)
        · refine mg_iconst (v := 0) C rfl (by decide) ?_
          exact wX12_plan_95 C hRm hd hn hk hw hk50 hf
        · refine mg_iconst (v := 1) C rfl (by decide) ?_
          refine mg_goto C rfl ?_
          exact wX12_plan_95 C hRm hd hn hk hw hk50 hf
      · refine mg_bipush (v := 50) C rfl (by decide) ?_
        refine mg_goto C rfl ?_
        exact wX12_plan_95 C hRm hd hn hk hw hk50 hf
    · refine mg_sipush (v := 240) C rfl (by decide) ?_
      refine mg_goto C rfl ?_
      exact wX12_plan_95 C hRm hd hn hk hw hk50 hf
def lX12_plan_50 (N : Nat)  : Nat → Nat → Int32 → mm_C → mR Int32
  | 0, _, _, _ => none
  | m + 1, v0, v2, c => bX12_plan_50 N  (lX12_plan_50 N  m) v0 v2 c
theorem WX12_plan_50 {Z : mm_Z} {X : mm_T} {k w mc ms d n N : Nat} {Q : mm_O → mm_H → Prop} (C : mm_Ok Z qX12_plan X) (hRm : mt_R X = mm_rm d mc ms) (hd : 87 ≤ d) (hn : n + 1 < 1000000) (hk : k + 1 ≤ mc) (hw : w + 6 ≤ ms) : ∀ (m : Nat) {v0 : Nat} {v2 : Int32} {c : mm_C} (hf : hO 0 ovI n (lX12_plan_50 N  m v0 v2 c) Q), mG Z qX12_plan X k w mc ms Q (50, [(0, .ref v0), (2, .int v2)], [], (n, c)) := by
  intro m
  induction m with
  | zero => intro v0 v2 c hf; exact absurd hf hO_none
  | succ m ih => intro v0 v2 c hf; exact wX12_plan_50 C hRm hd hn hk hw (fun v0 v2 c hf => ih hf) hf
def bX12_plan_17 (N : Nat)  (v0 : Nat) (c : mm_C) : mR Int32 :=
  cV 12 v0 c (fX12_fail N v0 (1 : Int32) c) fun r1 c2 => some (.inl r1, c2)
set_option maxRecDepth 100000 in
theorem wX12_plan_17 {Z : mm_Z} {X : mm_T} {k w mc ms d n N : Nat} {Q : mm_O → mm_H → Prop} (C : mm_Ok Z qX12_plan X) (hRm : mt_R X = mm_rm d mc ms) (hd : 87 ≤ d) (hn : n + 1 < 1000000) (hk : k + 1 ≤ mc) (hw : w + 6 ≤ ms) {v0 : Nat} {c : mm_C} (hf : hO 0 ovI n (bX12_plan_17 N  v0 c) Q) : mG Z qX12_plan X k w mc ms Q (17, [(0, .ref v0)], [], (n, c)) := by
  unfold bX12_plan_17 at hf
  refine mg_aload_n C rfl rfl ?_
  refine mg_iconst (v := 1) C rfl (by decide) ?_
  refine mh_cVI (M' := qX12_fail) C rfl rfl aX12_fail iX12_fail sX12_fail hRm (by omega) (by decide) (by omega) (by omega) rfl rfl rfl (Nat.le_of_ble_eq_true rfl) rfl hf (fun hs => wX12_fail (by omega) (by omega) hs) (fun r1 c2 hf => ?_)
  exact mh_ireturn C rfl (by omega) (by omega) rfl hf
def bX12_plan_0 (N : Nat)  (v0 : Nat) (v1 : Int32) (c : mm_C) : mR Int32 :=
  Option.bind (pI c v0 12 2 (0 : Int32)) fun c1 => if v1 < 0 then (bX12_plan_17 N  v0 c1) else (Option.bind (gI c1 v0 12 16) fun x2 => if v1 ≤ x2 then (Option.bind (pI c1 v0 12 16 (0 : Int32)) fun c3 => Option.bind (pI c3 v0 12 18 v1) fun c4 => Option.bind (pI c4 v0 12 17 (0 : Int32)) fun c5 => Option.bind (pI c5 v0 12 23 (0 : Int32)) fun c6 => Option.bind (pI c6 v0 12 25 (-1 : Int32)) fun c7 => lX12_plan_50 N  N v0 (0 : Int32) c7) else (bX12_plan_17 N  v0 c1))
set_option maxRecDepth 100000 in
theorem wX12_plan_0 {Z : mm_Z} {X : mm_T} {k w mc ms d n N : Nat} {Q : mm_O → mm_H → Prop} (C : mm_Ok Z qX12_plan X) (hRm : mt_R X = mm_rm d mc ms) (hd : 87 ≤ d) (hn : n + 1 < 1000000) (hk : k + 1 ≤ mc) (hw : w + 6 ≤ ms) {v0 : Nat} {v1 : Int32} {c : mm_C} (hf : hO 0 ovI n (bX12_plan_0 N  v0 v1 c) Q) : mG Z qX12_plan X k w mc ms Q (0, [(0, .ref v0), (1, .int v1)], [], (n, c)) := by
  unfold bX12_plan_0 at hf
  refine mg_aload_n C rfl rfl ?_
  refine mg_iconst (v := 0) C rfl (by decide) ?_
  refine mh_pI C rfl rfl rfl (by decide) rfl rfl rfl hf (fun c1 hf => ?_)
  refine mg_iload_n C rfl rfl ?_
  refine mh_if_lt C rfl hf (fun e_6 hf => ?_) (fun e_6 hf => ?_)
  · refine mg_sub (lv' := [(0, .ref v0)]) (by simp) ?_
    exact wX12_plan_17 C hRm hd hn hk hw hf
  · refine mg_iload_n C rfl rfl ?_
    refine mg_aload_n C rfl rfl ?_
    refine mh_gI C rfl rfl rfl (by decide) hf (fun x2 hf => ?_)
    refine mh_icmp_le C rfl hf (fun e_14 hf => ?_) (fun e_14 hf => ?_)
    · refine mg_aload_n C rfl rfl ?_
      refine mg_iconst (v := 0) C rfl (by decide) ?_
      refine mh_pI C rfl rfl rfl (by decide) rfl rfl rfl hf (fun c3 hf => ?_)
      refine mg_aload_n C rfl rfl ?_
      refine mg_iload_n C rfl rfl ?_
      refine mh_pI C rfl rfl rfl (by decide) rfl rfl rfl hf (fun c4 hf => ?_)
      refine mg_aload_n C rfl rfl ?_
      refine mg_iconst (v := 0) C rfl (by decide) ?_
      refine mh_pI C rfl rfl rfl (by decide) rfl rfl rfl hf (fun c5 hf => ?_)
      refine mg_aload_n C rfl rfl ?_
      refine mg_iconst (v := 0) C rfl (by decide) ?_
      refine mh_pI C rfl rfl rfl (by decide) rfl rfl rfl hf (fun c6 hf => ?_)
      refine mg_aload_n C rfl rfl ?_
      refine mg_iconst (v := (-1)) C rfl (by decide) ?_
      refine mh_pI C rfl rfl rfl (by decide) rfl rfl rfl hf (fun c7 hf => ?_)
      refine mg_iconst (v := 0) C rfl (by decide) ?_
      refine mg_istore_n (lv' := [(0, .ref v0), (1, .int v1), (2, .int (0 : Int32))]) C rfl (Nat.le_of_ble_eq_true rfl) rfl ?_
      refine mg_sub (lv' := [(0, .ref v0), (2, .int (0 : Int32))]) (by simp) ?_
      exact WX12_plan_50 C hRm hd hn hk hw N hf
    · refine mg_sub (lv' := [(0, .ref v0)]) (by simp) ?_
      exact wX12_plan_17 C hRm hd hn hk hw hf
def fX12_plan (N : Nat) (v0 : Nat) (v1 : Int32) (c : mm_C) : mR Int32 := bX12_plan_0 N v0 v1 c
set_option maxRecDepth 100000 in
theorem wX12_plan {Z : mm_Z} {d n N : Nat} (hd : 87 ≤ d) (hn : n + 1 < 1000000) {v0 : Nat} {v1 : Int32} {c : mm_C} (hs : (fX12_plan N v0 v1 c).isSome = true) : mC Z qX12_plan d 1 6 [.ref v0, .int v1] (n, c) (mP 0 ovI n (fX12_plan N v0 v1 c)) := by
  refine mC_of gX12_plan (by decide +kernel) (Nat.le_of_ble_eq_true rfl) fun X C hRm => ?_
  have hf := hO_mP 0 ovI n hs
  have hk : 0 + 1 ≤ 1 := Nat.le_of_ble_eq_true rfl
  have hw : 0 + 6 ≤ 6 := Nat.le_of_ble_eq_true rfl
  show mG _ _ _ _ _ _ _ _ (0, [(0, .ref v0), (1, .int v1)], [], (n, c))
  exact wX12_plan_0 C hRm hd hn hk hw hf
def bX12_fault_0 (N : Nat)  (v0 : Nat) (c : mm_C) : mR Int32 :=
  Option.bind (pI c v0 12 2 (0 : Int32)) fun c1 => Option.bind (gI c1 v0 12 25) fun x2 => some (.inl x2, c1)
set_option maxRecDepth 100000 in
theorem wX12_fault_0 {Z : mm_Z} {X : mm_T} {k w mc ms d n N : Nat} {Q : mm_O → mm_H → Prop} (C : mm_Ok Z qX12_fault X) (hRm : mt_R X = mm_rm d mc ms) (hd : 1 ≤ d) (hn : n + 1 < 1000000) (hk : k + 1 ≤ mc) (hw : w + 6 ≤ ms) {v0 : Nat} {c : mm_C} (hf : hO 0 ovI n (bX12_fault_0 N  v0 c) Q) : mG Z qX12_fault X k w mc ms Q (0, [(0, .ref v0)], [], (n, c)) := by
  unfold bX12_fault_0 at hf
  refine mg_aload_n C rfl rfl ?_
  refine mg_iconst (v := 0) C rfl (by decide) ?_
  refine mh_pI C rfl rfl rfl (by decide) rfl rfl rfl hf (fun c1 hf => ?_)
  refine mg_aload_n C rfl rfl ?_
  refine mh_gI C rfl rfl rfl (by decide) hf (fun x2 hf => ?_)
  exact mh_ireturn C rfl (by omega) (by omega) rfl hf
def fX12_fault (N : Nat) (v0 : Nat) (c : mm_C) : mR Int32 := bX12_fault_0 N v0 c
set_option maxRecDepth 100000 in
theorem wX12_fault {Z : mm_Z} {d n N : Nat} (hd : 1 ≤ d) (hn : n + 1 < 1000000) {v0 : Nat} {c : mm_C} (hs : (fX12_fault N v0 c).isSome = true) : mC Z qX12_fault d 1 6 [.ref v0] (n, c) (mP 0 ovI n (fX12_fault N v0 c)) := by
  refine mC_of gX12_fault (by decide +kernel) (Nat.le_of_ble_eq_true rfl) fun X C hRm => ?_
  have hf := hO_mP 0 ovI n hs
  have hk : 0 + 1 ≤ 1 := Nat.le_of_ble_eq_true rfl
  have hw : 0 + 6 ≤ 6 := Nat.le_of_ble_eq_true rfl
  show mG _ _ _ _ _ _ _ _ (0, [(0, .ref v0)], [], (n, c))
  exact wX12_fault_0 C hRm hd hn hk hw hf
def bX12_pack_83 (N : Nat)  (k36 : Nat → Nat → Int32 → Int32 → mm_C → mR Unit) (v0 : Nat) (v1 : Nat) (v3 : Int32) (v4 : Int32) (v5 : Int32) (c : mm_C) : mR Unit :=
  Option.bind (tI c v1 (v3 + v4) v5) fun c1 => k36 v0 v1 v3 (v4 + 1) c1
set_option maxRecDepth 100000 in
theorem wX12_pack_83 {Z : mm_Z} {X : mm_T} {k w mc ms d n N : Nat} {Q : mm_O → mm_H → Prop} (C : mm_Ok Z qX12_pack X) (hRm : mt_R X = mm_rm d mc ms) (hd : 1 ≤ d) (hn : n + 1 < 1000000) (hk : k + 1 ≤ mc) (hw : w + 6 ≤ ms) {k36 : Nat → Nat → Int32 → Int32 → mm_C → mR Unit} (hk36 : ∀ (v0 : Nat) (v1 : Nat) (v3 : Int32) (v4 : Int32) (c : mm_C), hO 0 ovU n (k36 v0 v1 v3 v4 c) Q → mG Z qX12_pack X k w mc ms Q (36, [(0, .ref v0), (1, .ref v1), (3, .int v3), (4, .int v4)], [], (n, c))) {v0 : Nat} {v1 : Nat} {v3 : Int32} {v4 : Int32} {v5 : Int32} {c : mm_C} (hf : hO 0 ovU n (bX12_pack_83 N  k36 v0 v1 v3 v4 v5 c) Q) : mG Z qX12_pack X k w mc ms Q (83, [(0, .ref v0), (1, .ref v1), (3, .int v3), (4, .int v4), (5, .int v5)], [], (n, c)) := by
  unfold bX12_pack_83 at hf
  refine mg_aload_n C rfl rfl ?_
  refine mg_iload_n C rfl rfl ?_
  refine mg_iload C rfl rfl ?_
  refine mg_iadd C rfl ?_
  refine mg_iload C rfl rfl ?_
  refine mh_tI C rfl hf (fun c1 hf => ?_)
  refine mg_iinc (lv' := [(0, .ref v0), (1, .ref v1), (3, .int v3), (4, .int (v4 + 1)), (5, .int v5)]) C rfl (Nat.le_of_ble_eq_true rfl) rfl (show _ + Int32.ofInt 1 = _ + 1 by congr 1) rfl ?_
  refine mg_goto C rfl ?_
  refine mg_sub (lv' := [(0, .ref v0), (1, .ref v1), (3, .int v3), (4, .int (v4 + 1))]) (by simp) ?_
  exact hk36 _ _ _ _ _ hf
def bX12_pack_49 (N : Nat)  (k36 : Nat → Nat → Int32 → Int32 → mm_C → mR Unit) (k49 : Nat → Nat → Int32 → Int32 → Int32 → Int32 → mm_C → mR Unit) (v0 : Nat) (v1 : Nat) (v3 : Int32) (v4 : Int32) (v5 : Int32) (v6 : Int32) (c : mm_C) : mR Unit :=
  if (30 : Int32) ≤ v6 then (bX12_pack_83 N  k36 v0 v1 v3 v4 v5 c) else (Option.bind (gR c v0 12 10) fun x1 => Option.bind (aI c x1 (((30 : Int32) * v4) + v6)) fun x2 => k49 v0 v1 v3 v4 (v5 ||| (x2 <<< (v6 &&& 31))) (v6 + 1) c)
set_option maxRecDepth 100000 in
theorem wX12_pack_49 {Z : mm_Z} {X : mm_T} {k w mc ms d n N : Nat} {Q : mm_O → mm_H → Prop} (C : mm_Ok Z qX12_pack X) (hRm : mt_R X = mm_rm d mc ms) (hd : 1 ≤ d) (hn : n + 1 < 1000000) (hk : k + 1 ≤ mc) (hw : w + 6 ≤ ms) {k36 : Nat → Nat → Int32 → Int32 → mm_C → mR Unit} (hk36 : ∀ (v0 : Nat) (v1 : Nat) (v3 : Int32) (v4 : Int32) (c : mm_C), hO 0 ovU n (k36 v0 v1 v3 v4 c) Q → mG Z qX12_pack X k w mc ms Q (36, [(0, .ref v0), (1, .ref v1), (3, .int v3), (4, .int v4)], [], (n, c))) {k49 : Nat → Nat → Int32 → Int32 → Int32 → Int32 → mm_C → mR Unit} (hk49 : ∀ (v0 : Nat) (v1 : Nat) (v3 : Int32) (v4 : Int32) (v5 : Int32) (v6 : Int32) (c : mm_C), hO 0 ovU n (k49 v0 v1 v3 v4 v5 v6 c) Q → mG Z qX12_pack X k w mc ms Q (49, [(0, .ref v0), (1, .ref v1), (3, .int v3), (4, .int v4), (5, .int v5), (6, .int v6)], [], (n, c))) {v0 : Nat} {v1 : Nat} {v3 : Int32} {v4 : Int32} {v5 : Int32} {v6 : Int32} {c : mm_C} (hf : hO 0 ovU n (bX12_pack_49 N  k36 k49 v0 v1 v3 v4 v5 v6 c) Q) : mG Z qX12_pack X k w mc ms Q (49, [(0, .ref v0), (1, .ref v1), (3, .int v3), (4, .int v4), (5, .int v5), (6, .int v6)], [], (n, c)) := by
  unfold bX12_pack_49 at hf
  refine mg_iload C rfl rfl ?_
  refine mg_bipush (v := 30) C rfl (by decide) ?_
  refine mh_icmp_ge C rfl hf (fun e_53 hf => ?_) (fun e_53 hf => ?_)
  · refine mg_sub (lv' := [(0, .ref v0), (1, .ref v1), (3, .int v3), (4, .int v4), (5, .int v5)]) (by simp) ?_
    exact wX12_pack_83 C hRm hd hn hk hw hk36 hf
  · refine mg_iload C rfl rfl ?_
    refine mg_aload_n C rfl rfl ?_
    refine mh_gR C rfl rfl rfl (by decide) hf (fun x1 hf => ?_)
    refine mg_bipush (v := 30) C rfl (by decide) ?_
    refine mg_iload C rfl rfl ?_
    refine mg_imul C rfl ?_
    refine mg_iload C rfl rfl ?_
    refine mg_iadd C rfl ?_
    refine mh_aI C rfl hf (fun x2 hf => ?_)
    refine mg_iload C rfl rfl ?_
    refine mg_ishl C rfl ?_
    refine mg_ior C rfl ?_
    refine mg_istore (lv' := [(0, .ref v0), (1, .ref v1), (3, .int v3), (4, .int v4), (5, .int (v5 ||| (x2 <<< (v6 &&& 31)))), (6, .int v6)]) C rfl (Nat.le_of_ble_eq_true rfl) rfl ?_
    refine mg_iinc (lv' := [(0, .ref v0), (1, .ref v1), (3, .int v3), (4, .int v4), (5, .int (v5 ||| (x2 <<< (v6 &&& 31)))), (6, .int (v6 + 1))]) C rfl (Nat.le_of_ble_eq_true rfl) rfl (show _ + Int32.ofInt 1 = _ + 1 by congr 1) rfl ?_
    refine mg_goto C rfl ?_
    exact hk49 _ _ _ _ _ _ _ hf
def lX12_pack_49 (N : Nat)  (k36 : Nat → Nat → Int32 → Int32 → mm_C → mR Unit) : Nat → Nat → Nat → Int32 → Int32 → Int32 → Int32 → mm_C → mR Unit
  | 0, _, _, _, _, _, _, _ => none
  | m + 1, v0, v1, v3, v4, v5, v6, c => bX12_pack_49 N  k36 (lX12_pack_49 N  k36 m) v0 v1 v3 v4 v5 v6 c
theorem WX12_pack_49 {Z : mm_Z} {X : mm_T} {k w mc ms d n N : Nat} {Q : mm_O → mm_H → Prop} (C : mm_Ok Z qX12_pack X) (hRm : mt_R X = mm_rm d mc ms) (hd : 1 ≤ d) (hn : n + 1 < 1000000) (hk : k + 1 ≤ mc) (hw : w + 6 ≤ ms) {k36 : Nat → Nat → Int32 → Int32 → mm_C → mR Unit} (hk36 : ∀ (v0 : Nat) (v1 : Nat) (v3 : Int32) (v4 : Int32) (c : mm_C), hO 0 ovU n (k36 v0 v1 v3 v4 c) Q → mG Z qX12_pack X k w mc ms Q (36, [(0, .ref v0), (1, .ref v1), (3, .int v3), (4, .int v4)], [], (n, c))) : ∀ (m : Nat) {v0 : Nat} {v1 : Nat} {v3 : Int32} {v4 : Int32} {v5 : Int32} {v6 : Int32} {c : mm_C} (hf : hO 0 ovU n (lX12_pack_49 N  k36 m v0 v1 v3 v4 v5 v6 c) Q), mG Z qX12_pack X k w mc ms Q (49, [(0, .ref v0), (1, .ref v1), (3, .int v3), (4, .int v4), (5, .int v5), (6, .int v6)], [], (n, c)) := by
  intro m
  induction m with
  | zero => intro v0 v1 v3 v4 v5 v6 c hf; exact absurd hf hO_none
  | succ m ih => intro v0 v1 v3 v4 v5 v6 c hf; exact wX12_pack_49 C hRm hd hn hk hw hk36 (fun v0 v1 v3 v4 v5 v6 c hf => ih hf) hf
def bX12_pack_36 (N : Nat)  (k36 : Nat → Nat → Int32 → Int32 → mm_C → mR Unit) (v0 : Nat) (v1 : Nat) (v3 : Int32) (v4 : Int32) (c : mm_C) : mR Unit :=
  if (16 : Int32) ≤ v4 then (some (.inl (), c)) else (lX12_pack_49 N  k36 N v0 v1 v3 v4 (0 : Int32) (0 : Int32) c)
set_option maxRecDepth 100000 in
theorem wX12_pack_36 {Z : mm_Z} {X : mm_T} {k w mc ms d n N : Nat} {Q : mm_O → mm_H → Prop} (C : mm_Ok Z qX12_pack X) (hRm : mt_R X = mm_rm d mc ms) (hd : 1 ≤ d) (hn : n + 1 < 1000000) (hk : k + 1 ≤ mc) (hw : w + 6 ≤ ms) {k36 : Nat → Nat → Int32 → Int32 → mm_C → mR Unit} (hk36 : ∀ (v0 : Nat) (v1 : Nat) (v3 : Int32) (v4 : Int32) (c : mm_C), hO 0 ovU n (k36 v0 v1 v3 v4 c) Q → mG Z qX12_pack X k w mc ms Q (36, [(0, .ref v0), (1, .ref v1), (3, .int v3), (4, .int v4)], [], (n, c))) {v0 : Nat} {v1 : Nat} {v3 : Int32} {v4 : Int32} {c : mm_C} (hf : hO 0 ovU n (bX12_pack_36 N  k36 v0 v1 v3 v4 c) Q) : mG Z qX12_pack X k w mc ms Q (36, [(0, .ref v0), (1, .ref v1), (3, .int v3), (4, .int v4)], [], (n, c)) := by
  unfold bX12_pack_36 at hf
  refine mg_iload C rfl rfl ?_
  refine mg_bipush (v := 16) C rfl (by decide) ?_
  refine mh_icmp_ge C rfl hf (fun e_40 hf => ?_) (fun e_40 hf => ?_)
  · exact mh_return C rfl (by omega) (by omega) rfl hf
  · refine mg_iconst (v := 0) C rfl (by decide) ?_
    refine mg_istore (lv' := [(0, .ref v0), (1, .ref v1), (3, .int v3), (4, .int v4), (5, .int (0 : Int32))]) C rfl (Nat.le_of_ble_eq_true rfl) rfl ?_
    refine mg_iconst (v := 0) C rfl (by decide) ?_
    refine mg_istore (lv' := [(0, .ref v0), (1, .ref v1), (3, .int v3), (4, .int v4), (5, .int (0 : Int32)), (6, .int (0 : Int32))]) C rfl (Nat.le_of_ble_eq_true rfl) rfl ?_
    exact WX12_pack_49 C hRm hd hn hk hw hk36 N hf
def lX12_pack_36 (N : Nat)  : Nat → Nat → Nat → Int32 → Int32 → mm_C → mR Unit
  | 0, _, _, _, _, _ => none
  | m + 1, v0, v1, v3, v4, c => bX12_pack_36 N  (lX12_pack_36 N  m) v0 v1 v3 v4 c
theorem WX12_pack_36 {Z : mm_Z} {X : mm_T} {k w mc ms d n N : Nat} {Q : mm_O → mm_H → Prop} (C : mm_Ok Z qX12_pack X) (hRm : mt_R X = mm_rm d mc ms) (hd : 1 ≤ d) (hn : n + 1 < 1000000) (hk : k + 1 ≤ mc) (hw : w + 6 ≤ ms) : ∀ (m : Nat) {v0 : Nat} {v1 : Nat} {v3 : Int32} {v4 : Int32} {c : mm_C} (hf : hO 0 ovU n (lX12_pack_36 N  m v0 v1 v3 v4 c) Q), mG Z qX12_pack X k w mc ms Q (36, [(0, .ref v0), (1, .ref v1), (3, .int v3), (4, .int v4)], [], (n, c)) := by
  intro m
  induction m with
  | zero => intro v0 v1 v3 v4 c hf; exact absurd hf hO_none
  | succ m ih => intro v0 v1 v3 v4 c hf; exact wX12_pack_36 C hRm hd hn hk hw (fun v0 v1 v3 v4 c hf => ih hf) hf
def bX12_pack_25 (N : Nat)  (v0 : Nat) (v1 : Nat) (v2 : Int32) (c : mm_C) : mR Unit :=
  lX12_pack_36 N  N v0 v1 ((v2 + (7 : Int32)) + (8 : Int32)) (0 : Int32) c
set_option maxRecDepth 100000 in
theorem wX12_pack_25 {Z : mm_Z} {X : mm_T} {k w mc ms d n N : Nat} {Q : mm_O → mm_H → Prop} (C : mm_Ok Z qX12_pack X) (hRm : mt_R X = mm_rm d mc ms) (hd : 1 ≤ d) (hn : n + 1 < 1000000) (hk : k + 1 ≤ mc) (hw : w + 6 ≤ ms) {v0 : Nat} {v1 : Nat} {v2 : Int32} {c : mm_C} (hf : hO 0 ovU n (bX12_pack_25 N  v0 v1 v2 c) Q) : mG Z qX12_pack X k w mc ms Q (25, [(0, .ref v0), (1, .ref v1), (2, .int v2)], [], (n, c)) := by
  unfold bX12_pack_25 at hf
  refine mg_iload_n C rfl rfl ?_
  refine mg_bipush (v := 7) C rfl (by decide) ?_
  refine mg_iadd C rfl ?_
  refine mg_bipush (v := 8) C rfl (by decide) ?_
  refine mg_iadd C rfl ?_
  refine mg_istore_n (lv' := [(0, .ref v0), (1, .ref v1), (2, .int v2), (3, .int ((v2 + (7 : Int32)) + (8 : Int32)))]) C rfl (Nat.le_of_ble_eq_true rfl) rfl ?_
  refine mg_iconst (v := 0) C rfl (by decide) ?_
  refine mg_istore (lv' := [(0, .ref v0), (1, .ref v1), (2, .int v2), (3, .int ((v2 + (7 : Int32)) + (8 : Int32))), (4, .int (0 : Int32))]) C rfl (Nat.le_of_ble_eq_true rfl) rfl ?_
  refine mg_sub (lv' := [(0, .ref v0), (1, .ref v1), (3, .int ((v2 + (7 : Int32)) + (8 : Int32))), (4, .int (0 : Int32))]) (by simp) ?_
  exact WX12_pack_36 C hRm hd hn hk hw N hf
def bX12_pack_2 (N : Nat)  (k2 : Nat → Nat → Int32 → Int32 → mm_C → mR Unit) (v0 : Nat) (v1 : Nat) (v2 : Int32) (v3 : Int32) (c : mm_C) : mR Unit :=
  if (15 : Int32) ≤ v3 then (bX12_pack_25 N  v0 v1 v2 c) else (Option.bind (gR c v0 12 26) fun x1 => Option.bind (aI c x1 v3) fun x2 => Option.bind (tI c v1 (v2 + v3) x2) fun c3 => k2 v0 v1 v2 (v3 + 1) c3)
set_option maxRecDepth 100000 in
theorem wX12_pack_2 {Z : mm_Z} {X : mm_T} {k w mc ms d n N : Nat} {Q : mm_O → mm_H → Prop} (C : mm_Ok Z qX12_pack X) (hRm : mt_R X = mm_rm d mc ms) (hd : 1 ≤ d) (hn : n + 1 < 1000000) (hk : k + 1 ≤ mc) (hw : w + 6 ≤ ms) {k2 : Nat → Nat → Int32 → Int32 → mm_C → mR Unit} (hk2 : ∀ (v0 : Nat) (v1 : Nat) (v2 : Int32) (v3 : Int32) (c : mm_C), hO 0 ovU n (k2 v0 v1 v2 v3 c) Q → mG Z qX12_pack X k w mc ms Q (2, [(0, .ref v0), (1, .ref v1), (2, .int v2), (3, .int v3)], [], (n, c))) {v0 : Nat} {v1 : Nat} {v2 : Int32} {v3 : Int32} {c : mm_C} (hf : hO 0 ovU n (bX12_pack_2 N  k2 v0 v1 v2 v3 c) Q) : mG Z qX12_pack X k w mc ms Q (2, [(0, .ref v0), (1, .ref v1), (2, .int v2), (3, .int v3)], [], (n, c)) := by
  unfold bX12_pack_2 at hf
  refine mg_iload_n C rfl rfl ?_
  refine mg_bipush (v := 15) C rfl (by decide) ?_
  refine mh_icmp_ge C rfl hf (fun e_5 hf => ?_) (fun e_5 hf => ?_)
  · refine mg_sub (lv' := [(0, .ref v0), (1, .ref v1), (2, .int v2)]) (by simp) ?_
    exact wX12_pack_25 C hRm hd hn hk hw hf
  · refine mg_aload_n C rfl rfl ?_
    refine mg_iload_n C rfl rfl ?_
    refine mg_iload_n C rfl rfl ?_
    refine mg_iadd C rfl ?_
    refine mg_aload_n C rfl rfl ?_
    refine mh_gR C rfl rfl rfl (by decide) hf (fun x1 hf => ?_)
    refine mg_iload_n C rfl rfl ?_
    refine mh_aI C rfl hf (fun x2 hf => ?_)
    refine mh_tI C rfl hf (fun c3 hf => ?_)
    refine mg_iinc (lv' := [(0, .ref v0), (1, .ref v1), (2, .int v2), (3, .int (v3 + 1))]) C rfl (Nat.le_of_ble_eq_true rfl) rfl (show _ + Int32.ofInt 1 = _ + 1 by congr 1) rfl ?_
    refine mg_goto C rfl ?_
    exact hk2 _ _ _ _ _ hf
def lX12_pack_2 (N : Nat)  : Nat → Nat → Nat → Int32 → Int32 → mm_C → mR Unit
  | 0, _, _, _, _, _ => none
  | m + 1, v0, v1, v2, v3, c => bX12_pack_2 N  (lX12_pack_2 N  m) v0 v1 v2 v3 c
theorem WX12_pack_2 {Z : mm_Z} {X : mm_T} {k w mc ms d n N : Nat} {Q : mm_O → mm_H → Prop} (C : mm_Ok Z qX12_pack X) (hRm : mt_R X = mm_rm d mc ms) (hd : 1 ≤ d) (hn : n + 1 < 1000000) (hk : k + 1 ≤ mc) (hw : w + 6 ≤ ms) : ∀ (m : Nat) {v0 : Nat} {v1 : Nat} {v2 : Int32} {v3 : Int32} {c : mm_C} (hf : hO 0 ovU n (lX12_pack_2 N  m v0 v1 v2 v3 c) Q), mG Z qX12_pack X k w mc ms Q (2, [(0, .ref v0), (1, .ref v1), (2, .int v2), (3, .int v3)], [], (n, c)) := by
  intro m
  induction m with
  | zero => intro v0 v1 v2 v3 c hf; exact absurd hf hO_none
  | succ m ih => intro v0 v1 v2 v3 c hf; exact wX12_pack_2 C hRm hd hn hk hw (fun v0 v1 v2 v3 c hf => ih hf) hf
def bX12_pack_0 (N : Nat)  (v0 : Nat) (v1 : Nat) (v2 : Int32) (c : mm_C) : mR Unit :=
  lX12_pack_2 N  N v0 v1 v2 (0 : Int32) c
set_option maxRecDepth 100000 in
theorem wX12_pack_0 {Z : mm_Z} {X : mm_T} {k w mc ms d n N : Nat} {Q : mm_O → mm_H → Prop} (C : mm_Ok Z qX12_pack X) (hRm : mt_R X = mm_rm d mc ms) (hd : 1 ≤ d) (hn : n + 1 < 1000000) (hk : k + 1 ≤ mc) (hw : w + 6 ≤ ms) {v0 : Nat} {v1 : Nat} {v2 : Int32} {c : mm_C} (hf : hO 0 ovU n (bX12_pack_0 N  v0 v1 v2 c) Q) : mG Z qX12_pack X k w mc ms Q (0, [(0, .ref v0), (1, .ref v1), (2, .int v2)], [], (n, c)) := by
  unfold bX12_pack_0 at hf
  refine mg_iconst (v := 0) C rfl (by decide) ?_
  refine mg_istore_n (lv' := [(0, .ref v0), (1, .ref v1), (2, .int v2), (3, .int (0 : Int32))]) C rfl (Nat.le_of_ble_eq_true rfl) rfl ?_
  exact WX12_pack_2 C hRm hd hn hk hw N hf
def fX12_pack (N : Nat) (v0 : Nat) (v1 : Nat) (v2 : Int32) (c : mm_C) : mR Unit := bX12_pack_0 N v0 v1 v2 c
set_option maxRecDepth 100000 in
theorem wX12_pack {Z : mm_Z} {d n N : Nat} (hd : 1 ≤ d) (hn : n + 1 < 1000000) {v0 : Nat} {v1 : Nat} {v2 : Int32} {c : mm_C} (hs : (fX12_pack N v0 v1 v2 c).isSome = true) : mC Z qX12_pack d 1 6 [.ref v0, .ref v1, .int v2] (n, c) (mP 0 ovU n (fX12_pack N v0 v1 v2 c)) := by
  refine mC_of gX12_pack (by decide +kernel) (Nat.le_of_ble_eq_true rfl) fun X C hRm => ?_
  have hf := hO_mP 0 ovU n hs
  have hk : 0 + 1 ≤ 1 := Nat.le_of_ble_eq_true rfl
  have hw : 0 + 6 ≤ 6 := Nat.le_of_ble_eq_true rfl
  show mG _ _ _ _ _ _ _ _ (0, [(0, .ref v0), (1, .ref v1), (2, .int v2)], [], (n, c))
  exact wX12_pack_0 C hRm hd hn hk hw hf
def bX12_unpack_36 (N : Nat)  (k36 : Nat → Nat → Int32 → Int32 → mm_C → mR Unit) (v0 : Nat) (v1 : Nat) (v3 : Int32) (v4 : Int32) (c : mm_C) : mR Unit :=
  if (480 : Int32) ≤ v4 then (some (.inl (), c)) else (Option.bind (gR c v0 12 10) fun x1 => Option.bind (dvI v4 (30 : Int32)) fun x2 => Option.bind (aI c v1 (v3 + x2)) fun x3 => Option.bind (rmI v4 (30 : Int32)) fun x4 => Option.bind (tI c x1 v4 ((x3 >>> (x4 &&& 31)) &&& (1 : Int32))) fun c5 => k36 v0 v1 v3 (v4 + 1) c5)
set_option maxRecDepth 100000 in
theorem wX12_unpack_36 {Z : mm_Z} {X : mm_T} {k w mc ms d n N : Nat} {Q : mm_O → mm_H → Prop} (C : mm_Ok Z qX12_unpack X) (hRm : mt_R X = mm_rm d mc ms) (hd : 1 ≤ d) (hn : n + 1 < 1000000) (hk : k + 1 ≤ mc) (hw : w + 6 ≤ ms) {k36 : Nat → Nat → Int32 → Int32 → mm_C → mR Unit} (hk36 : ∀ (v0 : Nat) (v1 : Nat) (v3 : Int32) (v4 : Int32) (c : mm_C), hO 0 ovU n (k36 v0 v1 v3 v4 c) Q → mG Z qX12_unpack X k w mc ms Q (36, [(0, .ref v0), (1, .ref v1), (3, .int v3), (4, .int v4)], [], (n, c))) {v0 : Nat} {v1 : Nat} {v3 : Int32} {v4 : Int32} {c : mm_C} (hf : hO 0 ovU n (bX12_unpack_36 N  k36 v0 v1 v3 v4 c) Q) : mG Z qX12_unpack X k w mc ms Q (36, [(0, .ref v0), (1, .ref v1), (3, .int v3), (4, .int v4)], [], (n, c)) := by
  unfold bX12_unpack_36 at hf
  refine mg_iload C rfl rfl ?_
  refine mg_sipush (v := 480) C rfl (by decide) ?_
  refine mh_icmp_ge C rfl hf (fun e_41 hf => ?_) (fun e_41 hf => ?_)
  · exact mh_return C rfl (by omega) (by omega) rfl hf
  · refine mg_aload_n C rfl rfl ?_
    refine mh_gR C rfl rfl rfl (by decide) hf (fun x1 hf => ?_)
    refine mg_iload C rfl rfl ?_
    refine mg_aload_n C rfl rfl ?_
    refine mg_iload_n C rfl rfl ?_
    refine mg_iload C rfl rfl ?_
    refine mg_bipush (v := 30) C rfl (by decide) ?_
    refine mh_idiv C rfl hf (fun x2 hf => ?_)
    refine mg_iadd C rfl ?_
    refine mh_aI C rfl hf (fun x3 hf => ?_)
    refine mg_iload C rfl rfl ?_
    refine mg_bipush (v := 30) C rfl (by decide) ?_
    refine mh_irem C rfl hf (fun x4 hf => ?_)
    refine mg_ishr C rfl ?_
    refine mg_iconst (v := 1) C rfl (by decide) ?_
    refine mg_iand C rfl ?_
    refine mh_tI C rfl hf (fun c5 hf => ?_)
    refine mg_iinc (lv' := [(0, .ref v0), (1, .ref v1), (3, .int v3), (4, .int (v4 + 1))]) C rfl (Nat.le_of_ble_eq_true rfl) rfl (show _ + Int32.ofInt 1 = _ + 1 by congr 1) rfl ?_
    refine mg_goto C rfl ?_
    exact hk36 _ _ _ _ _ hf
def lX12_unpack_36 (N : Nat)  : Nat → Nat → Nat → Int32 → Int32 → mm_C → mR Unit
  | 0, _, _, _, _, _ => none
  | m + 1, v0, v1, v3, v4, c => bX12_unpack_36 N  (lX12_unpack_36 N  m) v0 v1 v3 v4 c
theorem WX12_unpack_36 {Z : mm_Z} {X : mm_T} {k w mc ms d n N : Nat} {Q : mm_O → mm_H → Prop} (C : mm_Ok Z qX12_unpack X) (hRm : mt_R X = mm_rm d mc ms) (hd : 1 ≤ d) (hn : n + 1 < 1000000) (hk : k + 1 ≤ mc) (hw : w + 6 ≤ ms) : ∀ (m : Nat) {v0 : Nat} {v1 : Nat} {v3 : Int32} {v4 : Int32} {c : mm_C} (hf : hO 0 ovU n (lX12_unpack_36 N  m v0 v1 v3 v4 c) Q), mG Z qX12_unpack X k w mc ms Q (36, [(0, .ref v0), (1, .ref v1), (3, .int v3), (4, .int v4)], [], (n, c)) := by
  intro m
  induction m with
  | zero => intro v0 v1 v3 v4 c hf; exact absurd hf hO_none
  | succ m ih => intro v0 v1 v3 v4 c hf; exact wX12_unpack_36 C hRm hd hn hk hw (fun v0 v1 v3 v4 c hf => ih hf) hf
def bX12_unpack_25 (N : Nat)  (v0 : Nat) (v1 : Nat) (v2 : Int32) (c : mm_C) : mR Unit :=
  lX12_unpack_36 N  N v0 v1 ((v2 + (7 : Int32)) + (8 : Int32)) (0 : Int32) c
set_option maxRecDepth 100000 in
theorem wX12_unpack_25 {Z : mm_Z} {X : mm_T} {k w mc ms d n N : Nat} {Q : mm_O → mm_H → Prop} (C : mm_Ok Z qX12_unpack X) (hRm : mt_R X = mm_rm d mc ms) (hd : 1 ≤ d) (hn : n + 1 < 1000000) (hk : k + 1 ≤ mc) (hw : w + 6 ≤ ms) {v0 : Nat} {v1 : Nat} {v2 : Int32} {c : mm_C} (hf : hO 0 ovU n (bX12_unpack_25 N  v0 v1 v2 c) Q) : mG Z qX12_unpack X k w mc ms Q (25, [(0, .ref v0), (1, .ref v1), (2, .int v2)], [], (n, c)) := by
  unfold bX12_unpack_25 at hf
  refine mg_iload_n C rfl rfl ?_
  refine mg_bipush (v := 7) C rfl (by decide) ?_
  refine mg_iadd C rfl ?_
  refine mg_bipush (v := 8) C rfl (by decide) ?_
  refine mg_iadd C rfl ?_
  refine mg_istore_n (lv' := [(0, .ref v0), (1, .ref v1), (2, .int v2), (3, .int ((v2 + (7 : Int32)) + (8 : Int32)))]) C rfl (Nat.le_of_ble_eq_true rfl) rfl ?_
  refine mg_iconst (v := 0) C rfl (by decide) ?_
  refine mg_istore (lv' := [(0, .ref v0), (1, .ref v1), (2, .int v2), (3, .int ((v2 + (7 : Int32)) + (8 : Int32))), (4, .int (0 : Int32))]) C rfl (Nat.le_of_ble_eq_true rfl) rfl ?_
  refine mg_sub (lv' := [(0, .ref v0), (1, .ref v1), (3, .int ((v2 + (7 : Int32)) + (8 : Int32))), (4, .int (0 : Int32))]) (by simp) ?_
  exact WX12_unpack_36 C hRm hd hn hk hw N hf
def bX12_unpack_2 (N : Nat)  (k2 : Nat → Nat → Int32 → Int32 → mm_C → mR Unit) (v0 : Nat) (v1 : Nat) (v2 : Int32) (v3 : Int32) (c : mm_C) : mR Unit :=
  if (15 : Int32) ≤ v3 then (bX12_unpack_25 N  v0 v1 v2 c) else (Option.bind (gR c v0 12 26) fun x1 => Option.bind (aI c v1 (v2 + v3)) fun x2 => Option.bind (tI c x1 v3 x2) fun c3 => k2 v0 v1 v2 (v3 + 1) c3)
set_option maxRecDepth 100000 in
theorem wX12_unpack_2 {Z : mm_Z} {X : mm_T} {k w mc ms d n N : Nat} {Q : mm_O → mm_H → Prop} (C : mm_Ok Z qX12_unpack X) (hRm : mt_R X = mm_rm d mc ms) (hd : 1 ≤ d) (hn : n + 1 < 1000000) (hk : k + 1 ≤ mc) (hw : w + 6 ≤ ms) {k2 : Nat → Nat → Int32 → Int32 → mm_C → mR Unit} (hk2 : ∀ (v0 : Nat) (v1 : Nat) (v2 : Int32) (v3 : Int32) (c : mm_C), hO 0 ovU n (k2 v0 v1 v2 v3 c) Q → mG Z qX12_unpack X k w mc ms Q (2, [(0, .ref v0), (1, .ref v1), (2, .int v2), (3, .int v3)], [], (n, c))) {v0 : Nat} {v1 : Nat} {v2 : Int32} {v3 : Int32} {c : mm_C} (hf : hO 0 ovU n (bX12_unpack_2 N  k2 v0 v1 v2 v3 c) Q) : mG Z qX12_unpack X k w mc ms Q (2, [(0, .ref v0), (1, .ref v1), (2, .int v2), (3, .int v3)], [], (n, c)) := by
  unfold bX12_unpack_2 at hf
  refine mg_iload_n C rfl rfl ?_
  refine mg_bipush (v := 15) C rfl (by decide) ?_
  refine mh_icmp_ge C rfl hf (fun e_5 hf => ?_) (fun e_5 hf => ?_)
  · refine mg_sub (lv' := [(0, .ref v0), (1, .ref v1), (2, .int v2)]) (by simp) ?_
    exact wX12_unpack_25 C hRm hd hn hk hw hf
  · refine mg_aload_n C rfl rfl ?_
    refine mh_gR C rfl rfl rfl (by decide) hf (fun x1 hf => ?_)
    refine mg_iload_n C rfl rfl ?_
    refine mg_aload_n C rfl rfl ?_
    refine mg_iload_n C rfl rfl ?_
    refine mg_iload_n C rfl rfl ?_
    refine mg_iadd C rfl ?_
    refine mh_aI C rfl hf (fun x2 hf => ?_)
    refine mh_tI C rfl hf (fun c3 hf => ?_)
    refine mg_iinc (lv' := [(0, .ref v0), (1, .ref v1), (2, .int v2), (3, .int (v3 + 1))]) C rfl (Nat.le_of_ble_eq_true rfl) rfl (show _ + Int32.ofInt 1 = _ + 1 by congr 1) rfl ?_
    refine mg_goto C rfl ?_
    exact hk2 _ _ _ _ _ hf
def lX12_unpack_2 (N : Nat)  : Nat → Nat → Nat → Int32 → Int32 → mm_C → mR Unit
  | 0, _, _, _, _, _ => none
  | m + 1, v0, v1, v2, v3, c => bX12_unpack_2 N  (lX12_unpack_2 N  m) v0 v1 v2 v3 c
theorem WX12_unpack_2 {Z : mm_Z} {X : mm_T} {k w mc ms d n N : Nat} {Q : mm_O → mm_H → Prop} (C : mm_Ok Z qX12_unpack X) (hRm : mt_R X = mm_rm d mc ms) (hd : 1 ≤ d) (hn : n + 1 < 1000000) (hk : k + 1 ≤ mc) (hw : w + 6 ≤ ms) : ∀ (m : Nat) {v0 : Nat} {v1 : Nat} {v2 : Int32} {v3 : Int32} {c : mm_C} (hf : hO 0 ovU n (lX12_unpack_2 N  m v0 v1 v2 v3 c) Q), mG Z qX12_unpack X k w mc ms Q (2, [(0, .ref v0), (1, .ref v1), (2, .int v2), (3, .int v3)], [], (n, c)) := by
  intro m
  induction m with
  | zero => intro v0 v1 v2 v3 c hf; exact absurd hf hO_none
  | succ m ih => intro v0 v1 v2 v3 c hf; exact wX12_unpack_2 C hRm hd hn hk hw (fun v0 v1 v2 v3 c hf => ih hf) hf
def bX12_unpack_0 (N : Nat)  (v0 : Nat) (v1 : Nat) (v2 : Int32) (c : mm_C) : mR Unit :=
  lX12_unpack_2 N  N v0 v1 v2 (0 : Int32) c
set_option maxRecDepth 100000 in
theorem wX12_unpack_0 {Z : mm_Z} {X : mm_T} {k w mc ms d n N : Nat} {Q : mm_O → mm_H → Prop} (C : mm_Ok Z qX12_unpack X) (hRm : mt_R X = mm_rm d mc ms) (hd : 1 ≤ d) (hn : n + 1 < 1000000) (hk : k + 1 ≤ mc) (hw : w + 6 ≤ ms) {v0 : Nat} {v1 : Nat} {v2 : Int32} {c : mm_C} (hf : hO 0 ovU n (bX12_unpack_0 N  v0 v1 v2 c) Q) : mG Z qX12_unpack X k w mc ms Q (0, [(0, .ref v0), (1, .ref v1), (2, .int v2)], [], (n, c)) := by
  unfold bX12_unpack_0 at hf
  refine mg_iconst (v := 0) C rfl (by decide) ?_
  refine mg_istore_n (lv' := [(0, .ref v0), (1, .ref v1), (2, .int v2), (3, .int (0 : Int32))]) C rfl (Nat.le_of_ble_eq_true rfl) rfl ?_
  exact WX12_unpack_2 C hRm hd hn hk hw N hf
def fX12_unpack (N : Nat) (v0 : Nat) (v1 : Nat) (v2 : Int32) (c : mm_C) : mR Unit := bX12_unpack_0 N v0 v1 v2 c
set_option maxRecDepth 100000 in
theorem wX12_unpack {Z : mm_Z} {d n N : Nat} (hd : 1 ≤ d) (hn : n + 1 < 1000000) {v0 : Nat} {v1 : Nat} {v2 : Int32} {c : mm_C} (hs : (fX12_unpack N v0 v1 v2 c).isSome = true) : mC Z qX12_unpack d 1 6 [.ref v0, .ref v1, .int v2] (n, c) (mP 0 ovU n (fX12_unpack N v0 v1 v2 c)) := by
  refine mC_of gX12_unpack (by decide +kernel) (Nat.le_of_ble_eq_true rfl) fun X C hRm => ?_
  have hf := hO_mP 0 ovU n hs
  have hk : 0 + 1 ≤ 1 := Nat.le_of_ble_eq_true rfl
  have hw : 0 + 6 ≤ 6 := Nat.le_of_ble_eq_true rfl
  show mG _ _ _ _ _ _ _ _ (0, [(0, .ref v0), (1, .ref v1), (2, .int v2)], [], (n, c))
  exact wX12_unpack_0 C hRm hd hn hk hw hf
def bX12_lightOf_61 (N : Nat)  (v0 : Nat) (v2 : Int32) (c : mm_C) : mR Int32 :=
  Option.bind (gR c v0 12 10) fun x1 => Option.bind (aI c x1 v2) fun x2 => some (.inl x2, c)
set_option maxRecDepth 100000 in
theorem wX12_lightOf_61 {Z : mm_Z} {X : mm_T} {k w mc ms d n N : Nat} {Q : mm_O → mm_H → Prop} (C : mm_Ok Z qX12_lightOf X) (hRm : mt_R X = mm_rm d mc ms) (hd : 1 ≤ d) (hn : n + 1 < 1000000) (hk : k + 1 ≤ mc) (hw : w + 6 ≤ ms) {v0 : Nat} {v2 : Int32} {c : mm_C} (hf : hO 0 ovI n (bX12_lightOf_61 N  v0 v2 c) Q) : mG Z qX12_lightOf X k w mc ms Q (61, [(0, .ref v0), (2, .int v2)], [], (n, c)) := by
  unfold bX12_lightOf_61 at hf
  refine mg_aload_n C rfl rfl ?_
  refine mh_gR C rfl rfl rfl (by decide) hf (fun x1 hf => ?_)
  refine mg_iload_n C rfl rfl ?_
  refine mh_aI C rfl hf (fun x2 hf => ?_)
  exact mh_ireturn C rfl (by omega) (by omega) rfl hf
def bX12_lightOf_36 (N : Nat)  (v0 : Nat) (v1 : Int32) (v2 : Int32) (c : mm_C) : mR Int32 :=
  Option.bind (gR c v0 12 4) fun x1 => Option.bind (aI c x1 v1) fun x2 => if ¬ x2 = (1 : Int32) then (bX12_lightOf_61 N  v0 v2 c) else (Option.bind (gR c v0 12 26) fun x3 => Option.bind (aI c x3 (6 : Int32)) fun x4 => if ¬ x4 = (1 : Int32) then (bX12_lightOf_61 N  v0 v2 c) else (some (.inl (0 : Int32), c)))
set_option maxRecDepth 100000 in
theorem wX12_lightOf_36 {Z : mm_Z} {X : mm_T} {k w mc ms d n N : Nat} {Q : mm_O → mm_H → Prop} (C : mm_Ok Z qX12_lightOf X) (hRm : mt_R X = mm_rm d mc ms) (hd : 1 ≤ d) (hn : n + 1 < 1000000) (hk : k + 1 ≤ mc) (hw : w + 6 ≤ ms) {v0 : Nat} {v1 : Int32} {v2 : Int32} {c : mm_C} (hf : hO 0 ovI n (bX12_lightOf_36 N  v0 v1 v2 c) Q) : mG Z qX12_lightOf X k w mc ms Q (36, [(0, .ref v0), (1, .int v1), (2, .int v2)], [], (n, c)) := by
  unfold bX12_lightOf_36 at hf
  refine mg_aload_n C rfl rfl ?_
  refine mh_gR C rfl rfl rfl (by decide) hf (fun x1 hf => ?_)
  refine mg_iload_n C rfl rfl ?_
  refine mh_aI C rfl hf (fun x2 hf => ?_)
  refine mg_iconst (v := 1) C rfl (by decide) ?_
  refine mh_icmp_ne C rfl hf (fun e_43 hf => ?_) (fun e_43 hf => ?_)
  · refine mg_sub (lv' := [(0, .ref v0), (2, .int v2)]) (by simp) ?_
    exact wX12_lightOf_61 C hRm hd hn hk hw hf
  · refine mg_aload_n C rfl rfl ?_
    refine mh_gR C rfl rfl rfl (by decide) hf (fun x3 hf => ?_)
    refine mg_bipush (v := 6) C rfl (by decide) ?_
    refine mh_aI C rfl hf (fun x4 hf => ?_)
    refine mg_iconst (v := 1) C rfl (by decide) ?_
    refine mh_icmp_ne C rfl hf (fun e_54 hf => ?_) (fun e_54 hf => ?_)
    · refine mg_sub (lv' := [(0, .ref v0), (2, .int v2)]) (by simp) ?_
      exact wX12_lightOf_61 C hRm hd hn hk hw hf
    · refine mg_iconst (v := 0) C rfl (by decide) ?_
      refine mg_goto C rfl ?_
      exact mh_ireturn C rfl (by omega) (by omega) rfl hf
def bX12_lightOf_0 (N : Nat)  (v0 : Nat) (v1 : Int32) (v2 : Int32) (c : mm_C) : mR Int32 :=
  Option.bind (gR c v0 12 4) fun x1 => Option.bind (aI c x1 v1) fun x2 => if ¬ x2 = (2 : Int32) then (Option.bind (gR c v0 12 4) fun x3 => Option.bind (aI c x3 v1) fun x4 => if ¬ x4 = (1 : Int32) then (bX12_lightOf_36 N  v0 v1 v2 c) else (Option.bind (gR c v0 12 26) fun x5 => Option.bind (aI c x5 (5 : Int32)) fun x6 => if ¬ x6 = (1 : Int32) then (bX12_lightOf_36 N  v0 v1 v2 c) else (some (.inl (1 : Int32), c)))) else (some (.inl (1 : Int32), c))
set_option maxRecDepth 100000 in
theorem wX12_lightOf_0 {Z : mm_Z} {X : mm_T} {k w mc ms d n N : Nat} {Q : mm_O → mm_H → Prop} (C : mm_Ok Z qX12_lightOf X) (hRm : mt_R X = mm_rm d mc ms) (hd : 1 ≤ d) (hn : n + 1 < 1000000) (hk : k + 1 ≤ mc) (hw : w + 6 ≤ ms) {v0 : Nat} {v1 : Int32} {v2 : Int32} {c : mm_C} (hf : hO 0 ovI n (bX12_lightOf_0 N  v0 v1 v2 c) Q) : mG Z qX12_lightOf X k w mc ms Q (0, [(0, .ref v0), (1, .int v1), (2, .int v2)], [], (n, c)) := by
  unfold bX12_lightOf_0 at hf
  refine mg_aload_n C rfl rfl ?_
  refine mh_gR C rfl rfl rfl (by decide) hf (fun x1 hf => ?_)
  refine mg_iload_n C rfl rfl ?_
  refine mh_aI C rfl hf (fun x2 hf => ?_)
  refine mg_iconst (v := 2) C rfl (by decide) ?_
  refine mh_icmp_ne C rfl hf (fun e_7 hf => ?_) (fun e_7 hf => ?_)
  · refine mg_aload_n C rfl rfl ?_
    refine mh_gR C rfl rfl rfl (by decide) hf (fun x3 hf => ?_)
    refine mg_iload_n C rfl rfl ?_
    refine mh_aI C rfl hf (fun x4 hf => ?_)
    refine mg_iconst (v := 1) C rfl (by decide) ?_
    refine mh_icmp_ne C rfl hf (fun e_19 hf => ?_) (fun e_19 hf => ?_)
    · exact wX12_lightOf_36 C hRm hd hn hk hw hf
    · refine mg_aload_n C rfl rfl ?_
      refine mh_gR C rfl rfl rfl (by decide) hf (fun x5 hf => ?_)
      refine mg_iconst (v := 5) C rfl (by decide) ?_
      refine mh_aI C rfl hf (fun x6 hf => ?_)
      refine mg_iconst (v := 1) C rfl (by decide) ?_
      refine mh_icmp_ne C rfl hf (fun e_29 hf => ?_) (fun e_29 hf => ?_)
      · exact wX12_lightOf_36 C hRm hd hn hk hw hf
      · refine mg_iconst (v := 1) C rfl (by decide) ?_
        refine mg_goto C rfl ?_
        exact mh_ireturn C rfl (by omega) (by omega) rfl hf
  · refine mg_iconst (v := 1) C rfl (by decide) ?_
    exact mh_ireturn C rfl (by omega) (by omega) rfl hf
def fX12_lightOf (N : Nat) (v0 : Nat) (v1 : Int32) (v2 : Int32) (c : mm_C) : mR Int32 := bX12_lightOf_0 N v0 v1 v2 c
set_option maxRecDepth 100000 in
theorem wX12_lightOf {Z : mm_Z} {d n N : Nat} (hd : 1 ≤ d) (hn : n + 1 < 1000000) {v0 : Nat} {v1 : Int32} {v2 : Int32} {c : mm_C} (hs : (fX12_lightOf N v0 v1 v2 c).isSome = true) : mC Z qX12_lightOf d 1 6 [.ref v0, .int v1, .int v2] (n, c) (mP 0 ovI n (fX12_lightOf N v0 v1 v2 c)) := by
  refine mC_of gX12_lightOf (by decide +kernel) (Nat.le_of_ble_eq_true rfl) fun X C hRm => ?_
  have hf := hO_mP 0 ovI n hs
  have hk : 0 + 1 ≤ 1 := Nat.le_of_ble_eq_true rfl
  have hw : 0 + 6 ≤ 6 := Nat.le_of_ble_eq_true rfl
  show mG _ _ _ _ _ _ _ _ (0, [(0, .ref v0), (1, .int v1), (2, .int v2)], [], (n, c))
  exact wX12_lightOf_0 C hRm hd hn hk hw hf
def bX12_isLit_52 (N : Nat)   (c : mm_C) : mR Int32 :=
  rZ (1 : Int32) c
set_option maxRecDepth 100000 in
theorem wX12_isLit_52 {Z : mm_Z} {X : mm_T} {k w mc ms d n N : Nat} {Q : mm_O → mm_H → Prop} (C : mm_Ok Z qX12_isLit X) (hRm : mt_R X = mm_rm d mc ms) (hd : 2 ≤ d) (hn : n + 1 < 1000000) (hk : k + 1 ≤ mc) (hw : w + 6 ≤ ms)  {c : mm_C} (hf : hO 0 ovI n (bX12_isLit_52 N   c) Q) : mG Z qX12_isLit X k w mc ms Q (52, [], [], (n, c)) := by
  unfold bX12_isLit_52 at hf
  refine mg_iconst (v := 1) C rfl (by decide) ?_
  refine mg_goto C rfl ?_
  exact mh_zreturn C rfl (by omega) (by omega) rfl hf
def bX12_isLit_49 (N : Nat)  (s0 : Int32) (s1 : Int32) (c : mm_C) : mR Int32 :=
  if ¬ s0 = s1 then (rZ (0 : Int32) c) else (bX12_isLit_52 N  c)
set_option maxRecDepth 100000 in
theorem wX12_isLit_49 {Z : mm_Z} {X : mm_T} {k w mc ms d n N : Nat} {Q : mm_O → mm_H → Prop} (C : mm_Ok Z qX12_isLit X) (hRm : mt_R X = mm_rm d mc ms) (hd : 2 ≤ d) (hn : n + 1 < 1000000) (hk : k + 1 ≤ mc) (hw : w + 6 ≤ ms) {s0 : Int32} {s1 : Int32} {c : mm_C} (hf : hO 0 ovI n (bX12_isLit_49 N  s0 s1 c) Q) : mG Z qX12_isLit X k w mc ms Q (49, [], [.int s1, .int s0], (n, c)) := by
  unfold bX12_isLit_49 at hf
  refine mh_icmp_ne C rfl hf (fun e_49 hf => ?_) (fun e_49 hf => ?_)
  · refine mg_iconst (v := 0) C rfl (by decide) ?_
    exact mh_zreturn C rfl (by omega) (by omega) rfl hf
  · exact wX12_isLit_52 C hRm hd hn hk hw hf
def bX12_isLit_34 (N : Nat)  (v0 : Nat) (v1 : Int32) (v2 : Int32) (s0 : Int32) (c : mm_C) : mR Int32 :=
  cV 12 v0 c (fX12_lightOf N v0 v1 v2 c) fun r1 c2 => if ¬ r1 = (1 : Int32) then (bX12_isLit_49 N  s0 (0 : Int32) c2) else (bX12_isLit_49 N  s0 (1 : Int32) c2)
set_option maxRecDepth 100000 in
theorem wX12_isLit_34 {Z : mm_Z} {X : mm_T} {k w mc ms d n N : Nat} {Q : mm_O → mm_H → Prop} (C : mm_Ok Z qX12_isLit X) (hRm : mt_R X = mm_rm d mc ms) (hd : 2 ≤ d) (hn : n + 1 < 1000000) (hk : k + 1 ≤ mc) (hw : w + 6 ≤ ms) {v0 : Nat} {v1 : Int32} {v2 : Int32} {s0 : Int32} {c : mm_C} (hf : hO 0 ovI n (bX12_isLit_34 N  v0 v1 v2 s0 c) Q) : mG Z qX12_isLit X k w mc ms Q (34, [(0, .ref v0), (1, .int v1), (2, .int v2)], [.int s0], (n, c)) := by
  unfold bX12_isLit_34 at hf
  refine mg_aload_n C rfl rfl ?_
  refine mg_iload_n C rfl rfl ?_
  refine mg_iload_n C rfl rfl ?_
  refine mh_cVI (M' := qX12_lightOf) C rfl rfl aX12_lightOf iX12_lightOf sX12_lightOf hRm (by omega) (by decide) (by omega) (by omega) rfl rfl rfl (Nat.le_of_ble_eq_true rfl) rfl hf (fun hs => wX12_lightOf (by omega) (by omega) hs) (fun r1 c2 hf => ?_)
  refine mg_iconst (v := 1) C rfl (by decide) ?_
  refine mh_icmp_ne C rfl hf (fun e_41 hf => ?_) (fun e_41 hf => ?_)
  · refine mg_iconst (v := 0) C rfl (by decide) ?_
    refine mg_sub (lv' := []) (by simp) ?_
    exact wX12_isLit_49 C hRm hd hn hk hw hf
  · refine mg_iconst (v := 1) C rfl (by decide) ?_
    refine mg_goto C rfl ?_
    refine mg_sub (lv' := []) (by simp) ?_
    exact wX12_isLit_49 C hRm hd hn hk hw hf
def bX12_isLit_0 (N : Nat)  (v0 : Nat) (v1 : Int32) (v2 : Int32) (c : mm_C) : mR Int32 :=
  Option.bind (gR c v0 12 4) fun x1 => Option.bind (aI c x1 v1) fun x2 => if x2 = (2 : Int32) then (bX12_isLit_52 N  c) else (Option.bind (gR c v0 12 5) fun x3 => Option.bind (aI c x3 v1) fun x4 => if x4 = 0 then (bX12_isLit_52 N  c) else (Option.bind (gR c v0 12 5) fun x5 => Option.bind (aI c x5 v1) fun x6 => if ¬ x6 = (1 : Int32) then (bX12_isLit_34 N  v0 v1 v2 (0 : Int32) c) else (bX12_isLit_34 N  v0 v1 v2 (1 : Int32) c)))
set_option maxRecDepth 100000 in
theorem wX12_isLit_0 {Z : mm_Z} {X : mm_T} {k w mc ms d n N : Nat} {Q : mm_O → mm_H → Prop} (C : mm_Ok Z qX12_isLit X) (hRm : mt_R X = mm_rm d mc ms) (hd : 2 ≤ d) (hn : n + 1 < 1000000) (hk : k + 1 ≤ mc) (hw : w + 6 ≤ ms) {v0 : Nat} {v1 : Int32} {v2 : Int32} {c : mm_C} (hf : hO 0 ovI n (bX12_isLit_0 N  v0 v1 v2 c) Q) : mG Z qX12_isLit X k w mc ms Q (0, [(0, .ref v0), (1, .int v1), (2, .int v2)], [], (n, c)) := by
  unfold bX12_isLit_0 at hf
  refine mg_aload_n C rfl rfl ?_
  refine mh_gR C rfl rfl rfl (by decide) hf (fun x1 hf => ?_)
  refine mg_iload_n C rfl rfl ?_
  refine mh_aI C rfl hf (fun x2 hf => ?_)
  refine mg_iconst (v := 2) C rfl (by decide) ?_
  refine mh_icmp_eq C rfl hf (fun e_7 hf => ?_) (fun e_7 hf => ?_)
  · refine mg_sub (lv' := []) (by simp) ?_
    exact wX12_isLit_52 C hRm hd hn hk hw hf
  · refine mg_aload_n C rfl rfl ?_
    refine mh_gR C rfl rfl rfl (by decide) hf (fun x3 hf => ?_)
    refine mg_iload_n C rfl rfl ?_
    refine mh_aI C rfl hf (fun x4 hf => ?_)
    refine mh_if_eq C rfl hf (fun e_16 hf => ?_) (fun e_16 hf => ?_)
    · refine mg_sub (lv' := []) (by simp) ?_
      exact wX12_isLit_52 C hRm hd hn hk hw hf
    · refine mg_aload_n C rfl rfl ?_
      refine mh_gR C rfl rfl rfl (by decide) hf (fun x5 hf => ?_)
      refine mg_iload_n C rfl rfl ?_
      refine mh_aI C rfl hf (fun x6 hf => ?_)
      refine mg_iconst (v := 1) C rfl (by decide) ?_
      refine mh_icmp_ne C rfl hf (fun e_26 hf => ?_) (fun e_26 hf => ?_)
      · refine mg_iconst (v := 0) C rfl (by decide) ?_
        exact wX12_isLit_34 C hRm hd hn hk hw hf
      · refine mg_iconst (v := 1) C rfl (by decide) ?_
        refine mg_goto C rfl ?_
        exact wX12_isLit_34 C hRm hd hn hk hw hf
def fX12_isLit (N : Nat) (v0 : Nat) (v1 : Int32) (v2 : Int32) (c : mm_C) : mR Int32 := bX12_isLit_0 N v0 v1 v2 c
set_option maxRecDepth 100000 in
theorem wX12_isLit {Z : mm_Z} {d n N : Nat} (hd : 2 ≤ d) (hn : n + 1 < 1000000) {v0 : Nat} {v1 : Int32} {v2 : Int32} {c : mm_C} (hs : (fX12_isLit N v0 v1 v2 c).isSome = true) : mC Z qX12_isLit d 1 6 [.ref v0, .int v1, .int v2] (n, c) (mP 0 ovI n (fX12_isLit N v0 v1 v2 c)) := by
  refine mC_of gX12_isLit (by decide +kernel) (Nat.le_of_ble_eq_true rfl) fun X C hRm => ?_
  have hf := hO_mP 0 ovI n hs
  have hk : 0 + 1 ≤ 1 := Nat.le_of_ble_eq_true rfl
  have hw : 0 + 6 ≤ 6 := Nat.le_of_ble_eq_true rfl
  show mG _ _ _ _ _ _ _ _ (0, [(0, .ref v0), (1, .int v1), (2, .int v2)], [], (n, c))
  exact wX12_isLit_0 C hRm hd hn hk hw hf
def bX12_whyNow_75 (N : Nat)  (v0 : Nat) (v1 : Int32) (v2 : Int32) (s0 : Int32) (s1 : Int32) (c : mm_C) : mR Int32 :=
  if s0 = s1 then (Option.bind (gR c v0 12 7) fun x1 => Option.bind (aI c x1 v1) fun x2 => if v2 < x2 then (some (.inl (4 : Int32), c)) else (Option.bind (gR c v0 12 8) fun x3 => Option.bind (aI c x3 v1) fun x4 => if v2 ≤ x4 then (cV 12 v0 c (fX12_isLit N v0 v1 v2 c) fun r5 c6 => if ¬ r5 = 0 then (Option.bind (gR c6 v0 12 6) fun x7 => Option.bind (aI c6 x7 v1) fun x8 => Option.bind (gI c6 v0 12 30) fun x9 => if (v2 + x8) ≤ x9 then (some (.inl (0 : Int32), c6)) else (some (.inl (6 : Int32), c6))) else (some (.inl (5 : Int32), c6))) else (some (.inl (4 : Int32), c)))) else (some (.inl (3 : Int32), c))
set_option maxRecDepth 100000 in
theorem wX12_whyNow_75 {Z : mm_Z} {X : mm_T} {k w mc ms d n N : Nat} {Q : mm_O → mm_H → Prop} (C : mm_Ok Z qX12_whyNow X) (hRm : mt_R X = mm_rm d mc ms) (hd : 3 ≤ d) (hn : n + 1 < 1000000) (hk : k + 1 ≤ mc) (hw : w + 6 ≤ ms) {v0 : Nat} {v1 : Int32} {v2 : Int32} {s0 : Int32} {s1 : Int32} {c : mm_C} (hf : hO 0 ovI n (bX12_whyNow_75 N  v0 v1 v2 s0 s1 c) Q) : mG Z qX12_whyNow X k w mc ms Q (75, [(0, .ref v0), (1, .int v1), (2, .int v2)], [.int s1, .int s0], (n, c)) := by
  unfold bX12_whyNow_75 at hf
  refine mh_icmp_eq C rfl hf (fun e_75 hf => ?_) (fun e_75 hf => ?_)
  · refine mg_iload_n C rfl rfl ?_
    refine mg_aload_n C rfl rfl ?_
    refine mh_gR C rfl rfl rfl (by decide) hf (fun x1 hf => ?_)
    refine mg_iload_n C rfl rfl ?_
    refine mh_aI C rfl hf (fun x2 hf => ?_)
    refine mh_icmp_lt C rfl hf (fun e_87 hf => ?_) (fun e_87 hf => ?_)
    · refine mg_iconst (v := 4) C rfl (by decide) ?_
      exact mh_ireturn C rfl (by omega) (by omega) rfl hf
    · refine mg_iload_n C rfl rfl ?_
      refine mg_aload_n C rfl rfl ?_
      refine mh_gR C rfl rfl rfl (by decide) hf (fun x3 hf => ?_)
      refine mg_iload_n C rfl rfl ?_
      refine mh_aI C rfl hf (fun x4 hf => ?_)
      refine mh_icmp_le C rfl hf (fun e_97 hf => ?_) (fun e_97 hf => ?_)
      · refine mg_aload_n C rfl rfl ?_
        refine mg_iload_n C rfl rfl ?_
        refine mg_iload_n C rfl rfl ?_
        refine mh_cVI (M' := qX12_isLit) C rfl rfl aX12_isLit iX12_isLit sX12_isLit hRm (by omega) (by decide) (by omega) (by omega) rfl rfl rfl (Nat.le_of_ble_eq_true rfl) rfl hf (fun hs => wX12_isLit (by omega) (by omega) hs) (fun r5 c6 hf => ?_)
        refine mh_if_ne C rfl hf (fun e_108 hf => ?_) (fun e_108 hf => ?_)
        · refine mg_iload_n C rfl rfl ?_
          refine mg_aload_n C rfl rfl ?_
          refine mh_gR C rfl rfl rfl (by decide) hf (fun x7 hf => ?_)
          refine mg_iload_n C rfl rfl ?_
          refine mh_aI C rfl hf (fun x8 hf => ?_)
          refine mg_iadd C rfl ?_
          refine mg_aload_n C rfl rfl ?_
          refine mh_gI C rfl rfl rfl (by decide) hf (fun x9 hf => ?_)
          refine mh_icmp_le C rfl hf (fun e_125 hf => ?_) (fun e_125 hf => ?_)
          · refine mg_iconst (v := 0) C rfl (by decide) ?_
            exact mh_ireturn C rfl (by omega) (by omega) rfl hf
          · refine mg_bipush (v := 6) C rfl (by decide) ?_
            refine mg_goto C rfl ?_
            exact mh_ireturn C rfl (by omega) (by omega) rfl hf
        · refine mg_iconst (v := 5) C rfl (by decide) ?_
          exact mh_ireturn C rfl (by omega) (by omega) rfl hf
      · refine mg_iconst (v := 4) C rfl (by decide) ?_
        exact mh_ireturn C rfl (by omega) (by omega) rfl hf
  · refine mg_iconst (v := 3) C rfl (by decide) ?_
    exact mh_ireturn C rfl (by omega) (by omega) rfl hf
def bX12_whyNow_60 (N : Nat)  (v0 : Nat) (v1 : Int32) (v2 : Int32) (s0 : Int32) (c : mm_C) : mR Int32 :=
  Option.bind (gR c v0 12 26) fun x1 => Option.bind (aI c x1 (1 : Int32)) fun x2 => if ¬ x2 = (1 : Int32) then (bX12_whyNow_75 N  v0 v1 v2 s0 (0 : Int32) c) else (bX12_whyNow_75 N  v0 v1 v2 s0 (1 : Int32) c)
set_option maxRecDepth 100000 in
theorem wX12_whyNow_60 {Z : mm_Z} {X : mm_T} {k w mc ms d n N : Nat} {Q : mm_O → mm_H → Prop} (C : mm_Ok Z qX12_whyNow X) (hRm : mt_R X = mm_rm d mc ms) (hd : 3 ≤ d) (hn : n + 1 < 1000000) (hk : k + 1 ≤ mc) (hw : w + 6 ≤ ms) {v0 : Nat} {v1 : Int32} {v2 : Int32} {s0 : Int32} {c : mm_C} (hf : hO 0 ovI n (bX12_whyNow_60 N  v0 v1 v2 s0 c) Q) : mG Z qX12_whyNow X k w mc ms Q (60, [(0, .ref v0), (1, .int v1), (2, .int v2)], [.int s0], (n, c)) := by
  unfold bX12_whyNow_60 at hf
  refine mg_aload_n C rfl rfl ?_
  refine mh_gR C rfl rfl rfl (by decide) hf (fun x1 hf => ?_)
  refine mg_iconst (v := 1) C rfl (by decide) ?_
  refine mh_aI C rfl hf (fun x2 hf => ?_)
  refine mg_iconst (v := 1) C rfl (by decide) ?_
  refine mh_icmp_ne C rfl hf (fun e_67 hf => ?_) (fun e_67 hf => ?_)
  · refine mg_iconst (v := 0) C rfl (by decide) ?_
    exact wX12_whyNow_75 C hRm hd hn hk hw hf
  · refine mg_iconst (v := 1) C rfl (by decide) ?_
    refine mg_goto C rfl ?_
    exact wX12_whyNow_75 C hRm hd hn hk hw hf
def bX12_whyNow_45 (N : Nat)  (v0 : Nat) (v1 : Int32) (v2 : Int32) (c : mm_C) : mR Int32 :=
  Option.bind (gR c v0 12 4) fun x1 => Option.bind (aI c x1 v1) fun x2 => if ¬ x2 = (2 : Int32) then (bX12_whyNow_60 N  v0 v1 v2 (0 : Int32) c) else (bX12_whyNow_60 N  v0 v1 v2 (1 : Int32) c)
set_option maxRecDepth 100000 in
theorem wX12_whyNow_45 {Z : mm_Z} {X : mm_T} {k w mc ms d n N : Nat} {Q : mm_O → mm_H → Prop} (C : mm_Ok Z qX12_whyNow X) (hRm : mt_R X = mm_rm d mc ms) (hd : 3 ≤ d) (hn : n + 1 < 1000000) (hk : k + 1 ≤ mc) (hw : w + 6 ≤ ms) {v0 : Nat} {v1 : Int32} {v2 : Int32} {c : mm_C} (hf : hO 0 ovI n (bX12_whyNow_45 N  v0 v1 v2 c) Q) : mG Z qX12_whyNow X k w mc ms Q (45, [(0, .ref v0), (1, .int v1), (2, .int v2)], [], (n, c)) := by
  unfold bX12_whyNow_45 at hf
  refine mg_aload_n C rfl rfl ?_
  refine mh_gR C rfl rfl rfl (by decide) hf (fun x1 hf => ?_)
  refine mg_iload_n C rfl rfl ?_
  refine mh_aI C rfl hf (fun x2 hf => ?_)
  refine mg_iconst (v := 2) C rfl (by decide) ?_
  refine mh_icmp_ne C rfl hf (fun e_52 hf => ?_) (fun e_52 hf => ?_)
  · refine mg_iconst (v := 0) C rfl (by decide) ?_
    exact wX12_whyNow_60 C hRm hd hn hk hw hf
  · refine mg_iconst (v := 1) C rfl (by decide) ?_
    refine mg_goto C rfl ?_
    exact wX12_whyNow_60 C hRm hd hn hk hw hf
def bX12_whyNow_0 (N : Nat)  (v0 : Nat) (v1 : Int32) (v2 : Int32) (c : mm_C) : mR Int32 :=
  Option.bind (gR c v0 12 26) fun x1 => Option.bind (aI c x1 (2 : Int32)) fun x2 => cS (fX12_isOf N x2 v1 c) fun r3 c4 => if r3 = 0 then (Option.bind (gR c4 v0 12 9) fun x5 => Option.bind (aI c4 x5 v1) fun x6 => if x6 = (-1 : Int32) then (bX12_whyNow_45 N  v0 v1 v2 c4) else (Option.bind (gR c4 v0 12 26) fun x7 => Option.bind (aI c4 x7 (2 : Int32)) fun x8 => Option.bind (gR c4 v0 12 9) fun x9 => Option.bind (aI c4 x9 v1) fun x10 => cS (fX12_isOf N x8 x10 c4) fun r11 c12 => if ¬ r11 = 0 then (bX12_whyNow_45 N  v0 v1 v2 c12) else (some (.inl (2 : Int32), c12)))) else (some (.inl (1 : Int32), c4))
set_option maxRecDepth 100000 in
theorem wX12_whyNow_0 {Z : mm_Z} {X : mm_T} {k w mc ms d n N : Nat} {Q : mm_O → mm_H → Prop} (C : mm_Ok Z qX12_whyNow X) (hRm : mt_R X = mm_rm d mc ms) (hd : 3 ≤ d) (hn : n + 1 < 1000000) (hk : k + 1 ≤ mc) (hw : w + 6 ≤ ms) {v0 : Nat} {v1 : Int32} {v2 : Int32} {c : mm_C} (hf : hO 0 ovI n (bX12_whyNow_0 N  v0 v1 v2 c) Q) : mG Z qX12_whyNow X k w mc ms Q (0, [(0, .ref v0), (1, .int v1), (2, .int v2)], [], (n, c)) := by
  unfold bX12_whyNow_0 at hf
  refine mg_aload_n C rfl rfl ?_
  refine mh_gR C rfl rfl rfl (by decide) hf (fun x1 hf => ?_)
  refine mg_iconst (v := 2) C rfl (by decide) ?_
  refine mh_aI C rfl hf (fun x2 hf => ?_)
  refine mg_iload_n C rfl rfl ?_
  refine mh_cSI (M' := qX12_isOf) C rfl rfl aX12_isOf tX12_isOf hRm (by omega) (by decide) (by omega) (by omega) rfl rfl (Nat.le_of_ble_eq_true rfl) rfl hf (fun hs => wX12_isOf (by omega) (by omega) hs) (fun r3 c4 hf => ?_)
  refine mh_if_eq C rfl hf (fun e_10 hf => ?_) (fun e_10 hf => ?_)
  · refine mg_aload_n C rfl rfl ?_
    refine mh_gR C rfl rfl rfl (by decide) hf (fun x5 hf => ?_)
    refine mg_iload_n C rfl rfl ?_
    refine mh_aI C rfl hf (fun x6 hf => ?_)
    refine mg_iconst (v := (-1)) C rfl (by decide) ?_
    refine mh_icmp_eq C rfl hf (fun e_22 hf => ?_) (fun e_22 hf => ?_)
    · exact wX12_whyNow_45 C hRm hd hn hk hw hf
    · refine mg_aload_n C rfl rfl ?_
      refine mh_gR C rfl rfl rfl (by decide) hf (fun x7 hf => ?_)
      refine mg_iconst (v := 2) C rfl (by decide) ?_
      refine mh_aI C rfl hf (fun x8 hf => ?_)
      refine mg_aload_n C rfl rfl ?_
      refine mh_gR C rfl rfl rfl (by decide) hf (fun x9 hf => ?_)
      refine mg_iload_n C rfl rfl ?_
      refine mh_aI C rfl hf (fun x10 hf => ?_)
      refine mh_cSI (M' := qX12_isOf) C rfl rfl aX12_isOf tX12_isOf hRm (by omega) (by decide) (by omega) (by omega) rfl rfl (Nat.le_of_ble_eq_true rfl) rfl hf (fun hs => wX12_isOf (by omega) (by omega) hs) (fun r11 c12 hf => ?_)
      refine mh_if_ne C rfl hf (fun e_40 hf => ?_) (fun e_40 hf => ?_)
      · exact wX12_whyNow_45 C hRm hd hn hk hw hf
      · refine mg_iconst (v := 2) C rfl (by decide) ?_
        exact mh_ireturn C rfl (by omega) (by omega) rfl hf
  · refine mg_iconst (v := 1) C rfl (by decide) ?_
    exact mh_ireturn C rfl (by omega) (by omega) rfl hf
def fX12_whyNow (N : Nat) (v0 : Nat) (v1 : Int32) (v2 : Int32) (c : mm_C) : mR Int32 := bX12_whyNow_0 N v0 v1 v2 c
set_option maxRecDepth 100000 in
theorem wX12_whyNow {Z : mm_Z} {d n N : Nat} (hd : 3 ≤ d) (hn : n + 1 < 1000000) {v0 : Nat} {v1 : Int32} {v2 : Int32} {c : mm_C} (hs : (fX12_whyNow N v0 v1 v2 c).isSome = true) : mC Z qX12_whyNow d 1 6 [.ref v0, .int v1, .int v2] (n, c) (mP 0 ovI n (fX12_whyNow N v0 v1 v2 c)) := by
  refine mC_of gX12_whyNow (by decide +kernel) (Nat.le_of_ble_eq_true rfl) fun X C hRm => ?_
  have hf := hO_mP 0 ovI n hs
  have hk : 0 + 1 ≤ 1 := Nat.le_of_ble_eq_true rfl
  have hw : 0 + 6 ≤ 6 := Nat.le_of_ble_eq_true rfl
  show mG _ _ _ _ _ _ _ _ (0, [(0, .ref v0), (1, .int v1), (2, .int v2)], [], (n, c))
  exact wX12_whyNow_0 C hRm hd hn hk hw hf
def bX12_goesFor_39 (N : Nat)  (v0 : Nat) (v1 : Int32) (c : mm_C) : mR Int32 :=
  Option.bind (gR c v0 12 6) fun x1 => Option.bind (aI c x1 v1) fun x2 => some (.inl x2, c)
set_option maxRecDepth 100000 in
theorem wX12_goesFor_39 {Z : mm_Z} {X : mm_T} {k w mc ms d n N : Nat} {Q : mm_O → mm_H → Prop} (C : mm_Ok Z qX12_goesFor X) (hRm : mt_R X = mm_rm d mc ms) (hd : 2 ≤ d) (hn : n + 1 < 1000000) (hk : k + 1 ≤ mc) (hw : w + 6 ≤ ms) {v0 : Nat} {v1 : Int32} {c : mm_C} (hf : hO 0 ovI n (bX12_goesFor_39 N  v0 v1 c) Q) : mG Z qX12_goesFor X k w mc ms Q (39, [(0, .ref v0), (1, .int v1)], [], (n, c)) := by
  unfold bX12_goesFor_39 at hf
  refine mg_aload_n C rfl rfl ?_
  refine mh_gR C rfl rfl rfl (by decide) hf (fun x1 hf => ?_)
  refine mg_iload_n C rfl rfl ?_
  refine mh_aI C rfl hf (fun x2 hf => ?_)
  exact mh_ireturn C rfl (by omega) (by omega) rfl hf
def bX12_goesFor_29 (N : Nat)  (v3 : Int32) (c : mm_C) : mR Int32 :=
  some (.inl (v3 + (1 : Int32)), c)
set_option maxRecDepth 100000 in
theorem wX12_goesFor_29 {Z : mm_Z} {X : mm_T} {k w mc ms d n N : Nat} {Q : mm_O → mm_H → Prop} (C : mm_Ok Z qX12_goesFor X) (hRm : mt_R X = mm_rm d mc ms) (hd : 2 ≤ d) (hn : n + 1 < 1000000) (hk : k + 1 ≤ mc) (hw : w + 6 ≤ ms) {v3 : Int32} {c : mm_C} (hf : hO 0 ovI n (bX12_goesFor_29 N  v3 c) Q) : mG Z qX12_goesFor X k w mc ms Q (29, [(3, .int v3)], [], (n, c)) := by
  unfold bX12_goesFor_29 at hf
  refine mg_iload_n C rfl rfl ?_
  refine mg_iconst (v := 1) C rfl (by decide) ?_
  refine mg_iadd C rfl ?_
  exact mh_ireturn C rfl (by omega) (by omega) rfl hf
def bX12_goesFor_2 (N : Nat)  (k2 : Nat → Int32 → Int32 → Int32 → mm_C → mR Int32) (v0 : Nat) (v1 : Int32) (v2 : Int32) (v3 : Int32) (c : mm_C) : mR Int32 :=
  Option.bind (gR c v0 12 6) fun x1 => Option.bind (aI c x1 v1) fun x2 => if x2 ≤ v3 then (bX12_goesFor_39 N  v0 v1 c) else (cV 12 v0 c (fX12_lightOf N v0 v1 (v2 + v3) c) fun r3 c4 => cV 12 v0 c4 (fX12_lightOf N v0 v1 v2 c4) fun r5 c6 => if r3 = r5 then (k2 v0 v1 v2 (v3 + 1) c6) else (bX12_goesFor_29 N  v3 c6))
set_option maxRecDepth 100000 in
theorem wX12_goesFor_2 {Z : mm_Z} {X : mm_T} {k w mc ms d n N : Nat} {Q : mm_O → mm_H → Prop} (C : mm_Ok Z qX12_goesFor X) (hRm : mt_R X = mm_rm d mc ms) (hd : 2 ≤ d) (hn : n + 1 < 1000000) (hk : k + 1 ≤ mc) (hw : w + 6 ≤ ms) {k2 : Nat → Int32 → Int32 → Int32 → mm_C → mR Int32} (hk2 : ∀ (v0 : Nat) (v1 : Int32) (v2 : Int32) (v3 : Int32) (c : mm_C), hO 0 ovI n (k2 v0 v1 v2 v3 c) Q → mG Z qX12_goesFor X k w mc ms Q (2, [(0, .ref v0), (1, .int v1), (2, .int v2), (3, .int v3)], [], (n, c))) {v0 : Nat} {v1 : Int32} {v2 : Int32} {v3 : Int32} {c : mm_C} (hf : hO 0 ovI n (bX12_goesFor_2 N  k2 v0 v1 v2 v3 c) Q) : mG Z qX12_goesFor X k w mc ms Q (2, [(0, .ref v0), (1, .int v1), (2, .int v2), (3, .int v3)], [], (n, c)) := by
  unfold bX12_goesFor_2 at hf
  refine mg_iload_n C rfl rfl ?_
  refine mg_aload_n C rfl rfl ?_
  refine mh_gR C rfl rfl rfl (by decide) hf (fun x1 hf => ?_)
  refine mg_iload_n C rfl rfl ?_
  refine mh_aI C rfl hf (fun x2 hf => ?_)
  refine mh_icmp_ge C rfl hf (fun e_9 hf => ?_) (fun e_9 hf => ?_)
  · refine mg_sub (lv' := [(0, .ref v0), (1, .int v1)]) (by simp) ?_
    exact wX12_goesFor_39 C hRm hd hn hk hw hf
  · refine mg_aload_n C rfl rfl ?_
    refine mg_iload_n C rfl rfl ?_
    refine mg_iload_n C rfl rfl ?_
    refine mg_iload_n C rfl rfl ?_
    refine mg_iadd C rfl ?_
    refine mh_cVI (M' := qX12_lightOf) C rfl rfl aX12_lightOf iX12_lightOf sX12_lightOf hRm (by omega) (by decide) (by omega) (by omega) rfl rfl rfl (Nat.le_of_ble_eq_true rfl) rfl hf (fun hs => wX12_lightOf (by omega) (by omega) hs) (fun r3 c4 hf => ?_)
    refine mg_aload_n C rfl rfl ?_
    refine mg_iload_n C rfl rfl ?_
    refine mg_iload_n C rfl rfl ?_
    refine mh_cVI (M' := qX12_lightOf) C rfl rfl aX12_lightOf iX12_lightOf sX12_lightOf hRm (by omega) (by decide) (by omega) (by omega) rfl rfl rfl (Nat.le_of_ble_eq_true rfl) rfl hf (fun hs => wX12_lightOf (by omega) (by omega) hs) (fun r5 c6 hf => ?_)
    refine mh_icmp_eq C rfl hf (fun e_26 hf => ?_) (fun e_26 hf => ?_)
    · refine mg_iinc (lv' := [(0, .ref v0), (1, .int v1), (2, .int v2), (3, .int (v3 + 1))]) C rfl (Nat.le_of_ble_eq_true rfl) rfl (show _ + Int32.ofInt 1 = _ + 1 by congr 1) rfl ?_
      refine mg_goto C rfl ?_
      exact hk2 _ _ _ _ _ hf
    · refine mg_sub (lv' := [(3, .int v3)]) (by simp) ?_
      exact wX12_goesFor_29 C hRm hd hn hk hw hf
def lX12_goesFor_2 (N : Nat)  : Nat → Nat → Int32 → Int32 → Int32 → mm_C → mR Int32
  | 0, _, _, _, _, _ => none
  | m + 1, v0, v1, v2, v3, c => bX12_goesFor_2 N  (lX12_goesFor_2 N  m) v0 v1 v2 v3 c
theorem WX12_goesFor_2 {Z : mm_Z} {X : mm_T} {k w mc ms d n N : Nat} {Q : mm_O → mm_H → Prop} (C : mm_Ok Z qX12_goesFor X) (hRm : mt_R X = mm_rm d mc ms) (hd : 2 ≤ d) (hn : n + 1 < 1000000) (hk : k + 1 ≤ mc) (hw : w + 6 ≤ ms) : ∀ (m : Nat) {v0 : Nat} {v1 : Int32} {v2 : Int32} {v3 : Int32} {c : mm_C} (hf : hO 0 ovI n (lX12_goesFor_2 N  m v0 v1 v2 v3 c) Q), mG Z qX12_goesFor X k w mc ms Q (2, [(0, .ref v0), (1, .int v1), (2, .int v2), (3, .int v3)], [], (n, c)) := by
  intro m
  induction m with
  | zero => intro v0 v1 v2 v3 c hf; exact absurd hf hO_none
  | succ m ih => intro v0 v1 v2 v3 c hf; exact wX12_goesFor_2 C hRm hd hn hk hw (fun v0 v1 v2 v3 c hf => ih hf) hf
def bX12_goesFor_0 (N : Nat)  (v0 : Nat) (v1 : Int32) (v2 : Int32) (c : mm_C) : mR Int32 :=
  lX12_goesFor_2 N  N v0 v1 v2 (1 : Int32) c
set_option maxRecDepth 100000 in
theorem wX12_goesFor_0 {Z : mm_Z} {X : mm_T} {k w mc ms d n N : Nat} {Q : mm_O → mm_H → Prop} (C : mm_Ok Z qX12_goesFor X) (hRm : mt_R X = mm_rm d mc ms) (hd : 2 ≤ d) (hn : n + 1 < 1000000) (hk : k + 1 ≤ mc) (hw : w + 6 ≤ ms) {v0 : Nat} {v1 : Int32} {v2 : Int32} {c : mm_C} (hf : hO 0 ovI n (bX12_goesFor_0 N  v0 v1 v2 c) Q) : mG Z qX12_goesFor X k w mc ms Q (0, [(0, .ref v0), (1, .int v1), (2, .int v2)], [], (n, c)) := by
  unfold bX12_goesFor_0 at hf
  refine mg_iconst (v := 1) C rfl (by decide) ?_
  refine mg_istore_n (lv' := [(0, .ref v0), (1, .int v1), (2, .int v2), (3, .int (1 : Int32))]) C rfl (Nat.le_of_ble_eq_true rfl) rfl ?_
  exact WX12_goesFor_2 C hRm hd hn hk hw N hf
def fX12_goesFor (N : Nat) (v0 : Nat) (v1 : Int32) (v2 : Int32) (c : mm_C) : mR Int32 := bX12_goesFor_0 N v0 v1 v2 c
set_option maxRecDepth 100000 in
theorem wX12_goesFor {Z : mm_Z} {d n N : Nat} (hd : 2 ≤ d) (hn : n + 1 < 1000000) {v0 : Nat} {v1 : Int32} {v2 : Int32} {c : mm_C} (hs : (fX12_goesFor N v0 v1 v2 c).isSome = true) : mC Z qX12_goesFor d 1 6 [.ref v0, .int v1, .int v2] (n, c) (mP 0 ovI n (fX12_goesFor N v0 v1 v2 c)) := by
  refine mC_of gX12_goesFor (by decide +kernel) (Nat.le_of_ble_eq_true rfl) fun X C hRm => ?_
  have hf := hO_mP 0 ovI n hs
  have hk : 0 + 1 ≤ 1 := Nat.le_of_ble_eq_true rfl
  have hw : 0 + 6 ≤ 6 := Nat.le_of_ble_eq_true rfl
  show mG _ _ _ _ _ _ _ _ (0, [(0, .ref v0), (1, .int v1), (2, .int v2)], [], (n, c))
  exact wX12_goesFor_0 C hRm hd hn hk hw hf
def bX12_endures_19 (N : Nat)  (k19 : Nat → Int32 → Int32 → Int32 → mm_C → mR Int32) (v0 : Nat) (v1 : Int32) (v2 : Int32) (v3 : Int32) (c : mm_C) : mR Int32 :=
  Option.bind (gR c v0 12 6) fun x1 => Option.bind (aI c x1 v1) fun x2 => if x2 ≤ v3 then (rZ (1 : Int32) c) else (cV 12 v0 c (fX12_lightOf N v0 v1 (v2 + v3) c) fun r3 c4 => cV 12 v0 c4 (fX12_lightOf N v0 v1 v2 c4) fun r5 c6 => if r3 = r5 then (k19 v0 v1 v2 (v3 + 1) c6) else (rZ (0 : Int32) c6))
set_option maxRecDepth 100000 in
theorem wX12_endures_19 {Z : mm_Z} {X : mm_T} {k w mc ms d n N : Nat} {Q : mm_O → mm_H → Prop} (C : mm_Ok Z qX12_endures X) (hRm : mt_R X = mm_rm d mc ms) (hd : 2 ≤ d) (hn : n + 1 < 1000000) (hk : k + 1 ≤ mc) (hw : w + 6 ≤ ms) {k19 : Nat → Int32 → Int32 → Int32 → mm_C → mR Int32} (hk19 : ∀ (v0 : Nat) (v1 : Int32) (v2 : Int32) (v3 : Int32) (c : mm_C), hO 0 ovI n (k19 v0 v1 v2 v3 c) Q → mG Z qX12_endures X k w mc ms Q (19, [(0, .ref v0), (1, .int v1), (2, .int v2), (3, .int v3)], [], (n, c))) {v0 : Nat} {v1 : Int32} {v2 : Int32} {v3 : Int32} {c : mm_C} (hf : hO 0 ovI n (bX12_endures_19 N  k19 v0 v1 v2 v3 c) Q) : mG Z qX12_endures X k w mc ms Q (19, [(0, .ref v0), (1, .int v1), (2, .int v2), (3, .int v3)], [], (n, c)) := by
  unfold bX12_endures_19 at hf
  refine mg_iload_n C rfl rfl ?_
  refine mg_aload_n C rfl rfl ?_
  refine mh_gR C rfl rfl rfl (by decide) hf (fun x1 hf => ?_)
  refine mg_iload_n C rfl rfl ?_
  refine mh_aI C rfl hf (fun x2 hf => ?_)
  refine mh_icmp_ge C rfl hf (fun e_26 hf => ?_) (fun e_26 hf => ?_)
  · refine mg_iconst (v := 1) C rfl (by decide) ?_
    exact mh_zreturn C rfl (by omega) (by omega) rfl hf
  · refine mg_aload_n C rfl rfl ?_
    refine mg_iload_n C rfl rfl ?_
    refine mg_iload_n C rfl rfl ?_
    refine mg_iload_n C rfl rfl ?_
    refine mg_iadd C rfl ?_
    refine mh_cVI (M' := qX12_lightOf) C rfl rfl aX12_lightOf iX12_lightOf sX12_lightOf hRm (by omega) (by decide) (by omega) (by omega) rfl rfl rfl (Nat.le_of_ble_eq_true rfl) rfl hf (fun hs => wX12_lightOf (by omega) (by omega) hs) (fun r3 c4 hf => ?_)
    refine mg_aload_n C rfl rfl ?_
    refine mg_iload_n C rfl rfl ?_
    refine mg_iload_n C rfl rfl ?_
    refine mh_cVI (M' := qX12_lightOf) C rfl rfl aX12_lightOf iX12_lightOf sX12_lightOf hRm (by omega) (by decide) (by omega) (by omega) rfl rfl rfl (Nat.le_of_ble_eq_true rfl) rfl hf (fun hs => wX12_lightOf (by omega) (by omega) hs) (fun r5 c6 hf => ?_)
    refine mh_icmp_eq C rfl hf (fun e_43 hf => ?_) (fun e_43 hf => ?_)
    · refine mg_iinc (lv' := [(0, .ref v0), (1, .int v1), (2, .int v2), (3, .int (v3 + 1))]) C rfl (Nat.le_of_ble_eq_true rfl) rfl (show _ + Int32.ofInt 1 = _ + 1 by congr 1) rfl ?_
      refine mg_goto C rfl ?_
      exact hk19 _ _ _ _ _ hf
    · refine mg_iconst (v := 0) C rfl (by decide) ?_
      exact mh_zreturn C rfl (by omega) (by omega) rfl hf
def lX12_endures_19 (N : Nat)  : Nat → Nat → Int32 → Int32 → Int32 → mm_C → mR Int32
  | 0, _, _, _, _, _ => none
  | m + 1, v0, v1, v2, v3, c => bX12_endures_19 N  (lX12_endures_19 N  m) v0 v1 v2 v3 c
theorem WX12_endures_19 {Z : mm_Z} {X : mm_T} {k w mc ms d n N : Nat} {Q : mm_O → mm_H → Prop} (C : mm_Ok Z qX12_endures X) (hRm : mt_R X = mm_rm d mc ms) (hd : 2 ≤ d) (hn : n + 1 < 1000000) (hk : k + 1 ≤ mc) (hw : w + 6 ≤ ms) : ∀ (m : Nat) {v0 : Nat} {v1 : Int32} {v2 : Int32} {v3 : Int32} {c : mm_C} (hf : hO 0 ovI n (lX12_endures_19 N  m v0 v1 v2 v3 c) Q), mG Z qX12_endures X k w mc ms Q (19, [(0, .ref v0), (1, .int v1), (2, .int v2), (3, .int v3)], [], (n, c)) := by
  intro m
  induction m with
  | zero => intro v0 v1 v2 v3 c hf; exact absurd hf hO_none
  | succ m ih => intro v0 v1 v2 v3 c hf; exact wX12_endures_19 C hRm hd hn hk hw (fun v0 v1 v2 v3 c hf => ih hf) hf
def bX12_endures_0 (N : Nat)  (v0 : Nat) (v1 : Int32) (v2 : Int32) (c : mm_C) : mR Int32 :=
  Option.bind (gR c v0 12 6) fun x1 => Option.bind (aI c x1 v1) fun x2 => Option.bind (gI c v0 12 30) fun x3 => if (v2 + x2) ≤ x3 then (lX12_endures_19 N  N v0 v1 v2 (1 : Int32) c) else (rZ (0 : Int32) c)
set_option maxRecDepth 100000 in
theorem wX12_endures_0 {Z : mm_Z} {X : mm_T} {k w mc ms d n N : Nat} {Q : mm_O → mm_H → Prop} (C : mm_Ok Z qX12_endures X) (hRm : mt_R X = mm_rm d mc ms) (hd : 2 ≤ d) (hn : n + 1 < 1000000) (hk : k + 1 ≤ mc) (hw : w + 6 ≤ ms) {v0 : Nat} {v1 : Int32} {v2 : Int32} {c : mm_C} (hf : hO 0 ovI n (bX12_endures_0 N  v0 v1 v2 c) Q) : mG Z qX12_endures X k w mc ms Q (0, [(0, .ref v0), (1, .int v1), (2, .int v2)], [], (n, c)) := by
  unfold bX12_endures_0 at hf
  refine mg_iload_n C rfl rfl ?_
  refine mg_aload_n C rfl rfl ?_
  refine mh_gR C rfl rfl rfl (by decide) hf (fun x1 hf => ?_)
  refine mg_iload_n C rfl rfl ?_
  refine mh_aI C rfl hf (fun x2 hf => ?_)
  refine mg_iadd C rfl ?_
  refine mg_aload_n C rfl rfl ?_
  refine mh_gI C rfl rfl rfl (by decide) hf (fun x3 hf => ?_)
  refine mh_icmp_le C rfl hf (fun e_12 hf => ?_) (fun e_12 hf => ?_)
  · refine mg_iconst (v := 1) C rfl (by decide) ?_
    refine mg_istore_n (lv' := [(0, .ref v0), (1, .int v1), (2, .int v2), (3, .int (1 : Int32))]) C rfl (Nat.le_of_ble_eq_true rfl) rfl ?_
    exact WX12_endures_19 C hRm hd hn hk hw N hf
  · refine mg_iconst (v := 0) C rfl (by decide) ?_
    exact mh_zreturn C rfl (by omega) (by omega) rfl hf
def fX12_endures (N : Nat) (v0 : Nat) (v1 : Int32) (v2 : Int32) (c : mm_C) : mR Int32 := bX12_endures_0 N v0 v1 v2 c
set_option maxRecDepth 100000 in
theorem wX12_endures {Z : mm_Z} {d n N : Nat} (hd : 2 ≤ d) (hn : n + 1 < 1000000) {v0 : Nat} {v1 : Int32} {v2 : Int32} {c : mm_C} (hs : (fX12_endures N v0 v1 v2 c).isSome = true) : mC Z qX12_endures d 1 6 [.ref v0, .int v1, .int v2] (n, c) (mP 0 ovI n (fX12_endures N v0 v1 v2 c)) := by
  refine mC_of gX12_endures (by decide +kernel) (Nat.le_of_ble_eq_true rfl) fun X C hRm => ?_
  have hf := hO_mP 0 ovI n hs
  have hk : 0 + 1 ≤ 1 := Nat.le_of_ble_eq_true rfl
  have hw : 0 + 6 ≤ 6 := Nat.le_of_ble_eq_true rfl
  show mG _ _ _ _ _ _ _ _ (0, [(0, .ref v0), (1, .int v1), (2, .int v2)], [], (n, c))
  exact wX12_endures_0 C hRm hd hn hk hw hf
def bX12_canBeHad_0 (N : Nat)  (v0 : Nat) (v1 : Int32) (v2 : Int32) (c : mm_C) : mR Int32 :=
  Option.bind (gR c v0 12 7) fun x1 => Option.bind (aI c x1 v1) fun x2 => if v2 < x2 then (rZ (0 : Int32) c) else (Option.bind (gR c v0 12 8) fun x3 => Option.bind (aI c x3 v1) fun x4 => if x4 < v2 then (rZ (0 : Int32) c) else (cV 12 v0 c (fX12_isLit N v0 v1 v2 c) fun r5 c6 => if r5 = 0 then (rZ (0 : Int32) c6) else (cV 12 v0 c6 (fX12_endures N v0 v1 v2 c6) fun r7 c8 => if r7 = 0 then (rZ (0 : Int32) c8) else (rZ (1 : Int32) c8))))
set_option maxRecDepth 100000 in
theorem wX12_canBeHad_0 {Z : mm_Z} {X : mm_T} {k w mc ms d n N : Nat} {Q : mm_O → mm_H → Prop} (C : mm_Ok Z qX12_canBeHad X) (hRm : mt_R X = mm_rm d mc ms) (hd : 3 ≤ d) (hn : n + 1 < 1000000) (hk : k + 1 ≤ mc) (hw : w + 6 ≤ ms) {v0 : Nat} {v1 : Int32} {v2 : Int32} {c : mm_C} (hf : hO 0 ovI n (bX12_canBeHad_0 N  v0 v1 v2 c) Q) : mG Z qX12_canBeHad X k w mc ms Q (0, [(0, .ref v0), (1, .int v1), (2, .int v2)], [], (n, c)) := by
  unfold bX12_canBeHad_0 at hf
  refine mg_iload_n C rfl rfl ?_
  refine mg_aload_n C rfl rfl ?_
  refine mh_gR C rfl rfl rfl (by decide) hf (fun x1 hf => ?_)
  refine mg_iload_n C rfl rfl ?_
  refine mh_aI C rfl hf (fun x2 hf => ?_)
  refine mh_icmp_lt C rfl hf (fun e_7 hf => ?_) (fun e_7 hf => ?_)
  · refine mg_iconst (v := 0) C rfl (by decide) ?_
    exact mh_zreturn C rfl (by omega) (by omega) rfl hf
  · refine mg_iload_n C rfl rfl ?_
    refine mg_aload_n C rfl rfl ?_
    refine mh_gR C rfl rfl rfl (by decide) hf (fun x3 hf => ?_)
    refine mg_iload_n C rfl rfl ?_
    refine mh_aI C rfl hf (fun x4 hf => ?_)
    refine mh_icmp_gt C rfl hf (fun e_17 hf => ?_) (fun e_17 hf => ?_)
    · refine mg_iconst (v := 0) C rfl (by decide) ?_
      exact mh_zreturn C rfl (by omega) (by omega) rfl hf
    · refine mg_aload_n C rfl rfl ?_
      refine mg_iload_n C rfl rfl ?_
      refine mg_iload_n C rfl rfl ?_
      refine mh_cVI (M' := qX12_isLit) C rfl rfl aX12_isLit iX12_isLit sX12_isLit hRm (by omega) (by decide) (by omega) (by omega) rfl rfl rfl (Nat.le_of_ble_eq_true rfl) rfl hf (fun hs => wX12_isLit (by omega) (by omega) hs) (fun r5 c6 hf => ?_)
      refine mh_if_eq C rfl hf (fun e_26 hf => ?_) (fun e_26 hf => ?_)
      · refine mg_iconst (v := 0) C rfl (by decide) ?_
        exact mh_zreturn C rfl (by omega) (by omega) rfl hf
      · refine mg_aload_n C rfl rfl ?_
        refine mg_iload_n C rfl rfl ?_
        refine mg_iload_n C rfl rfl ?_
        refine mh_cVI (M' := qX12_endures) C rfl rfl aX12_endures iX12_endures sX12_endures hRm (by omega) (by decide) (by omega) (by omega) rfl rfl rfl (Nat.le_of_ble_eq_true rfl) rfl hf (fun hs => wX12_endures (by omega) (by omega) hs) (fun r7 c8 hf => ?_)
        refine mh_if_eq C rfl hf (fun e_35 hf => ?_) (fun e_35 hf => ?_)
        · refine mg_iconst (v := 0) C rfl (by decide) ?_
          exact mh_zreturn C rfl (by omega) (by omega) rfl hf
        · refine mg_iconst (v := 1) C rfl (by decide) ?_
          refine mg_goto C rfl ?_
          exact mh_zreturn C rfl (by omega) (by omega) rfl hf
def fX12_canBeHad (N : Nat) (v0 : Nat) (v1 : Int32) (v2 : Int32) (c : mm_C) : mR Int32 := bX12_canBeHad_0 N v0 v1 v2 c
set_option maxRecDepth 100000 in
theorem wX12_canBeHad {Z : mm_Z} {d n N : Nat} (hd : 3 ≤ d) (hn : n + 1 < 1000000) {v0 : Nat} {v1 : Int32} {v2 : Int32} {c : mm_C} (hs : (fX12_canBeHad N v0 v1 v2 c).isSome = true) : mC Z qX12_canBeHad d 1 6 [.ref v0, .int v1, .int v2] (n, c) (mP 0 ovI n (fX12_canBeHad N v0 v1 v2 c)) := by
  refine mC_of gX12_canBeHad (by decide +kernel) (Nat.le_of_ble_eq_true rfl) fun X C hRm => ?_
  have hf := hO_mP 0 ovI n hs
  have hk : 0 + 1 ≤ 1 := Nat.le_of_ble_eq_true rfl
  have hw : 0 + 6 ≤ 6 := Nat.le_of_ble_eq_true rfl
  show mG _ _ _ _ _ _ _ _ (0, [(0, .ref v0), (1, .int v1), (2, .int v2)], [], (n, c))
  exact wX12_canBeHad_0 C hRm hd hn hk hw hf
def bX12_staysFor_35 (N : Nat)  (v2 : Int32) (c : mm_C) : mR Int32 :=
  some (.inl v2, c)
set_option maxRecDepth 100000 in
theorem wX12_staysFor_35 {Z : mm_Z} {X : mm_T} {k w mc ms d n N : Nat} {Q : mm_O → mm_H → Prop} (C : mm_Ok Z qX12_staysFor X) (hRm : mt_R X = mm_rm d mc ms) (hd : 1 ≤ d) (hn : n + 1 < 1000000) (hk : k + 1 ≤ mc) (hw : w + 6 ≤ ms) {v2 : Int32} {c : mm_C} (hf : hO 0 ovI n (bX12_staysFor_35 N  v2 c) Q) : mG Z qX12_staysFor X k w mc ms Q (35, [(2, .int v2)], [], (n, c)) := by
  unfold bX12_staysFor_35 at hf
  refine mg_iload_n C rfl rfl ?_
  exact mh_ireturn C rfl (by omega) (by omega) rfl hf
def bX12_staysFor_2 (N : Nat)  (k2 : Nat → Int32 → Int32 → mm_C → mR Int32) (v0 : Nat) (v1 : Int32) (v2 : Int32) (c : mm_C) : mR Int32 :=
  Option.bind (gI c v0 12 30) fun x1 => if x1 ≤ (v1 + v2) then (bX12_staysFor_35 N  v2 c) else (Option.bind (gR c v0 12 10) fun x2 => Option.bind (aI c x2 (v1 + v2)) fun x3 => Option.bind (gR c v0 12 10) fun x4 => Option.bind (aI c x4 v1) fun x5 => if ¬ x3 = x5 then (bX12_staysFor_35 N  v2 c) else (k2 v0 v1 (v2 + 1) c))
set_option maxRecDepth 100000 in
theorem wX12_staysFor_2 {Z : mm_Z} {X : mm_T} {k w mc ms d n N : Nat} {Q : mm_O → mm_H → Prop} (C : mm_Ok Z qX12_staysFor X) (hRm : mt_R X = mm_rm d mc ms) (hd : 1 ≤ d) (hn : n + 1 < 1000000) (hk : k + 1 ≤ mc) (hw : w + 6 ≤ ms) {k2 : Nat → Int32 → Int32 → mm_C → mR Int32} (hk2 : ∀ (v0 : Nat) (v1 : Int32) (v2 : Int32) (c : mm_C), hO 0 ovI n (k2 v0 v1 v2 c) Q → mG Z qX12_staysFor X k w mc ms Q (2, [(0, .ref v0), (1, .int v1), (2, .int v2)], [], (n, c))) {v0 : Nat} {v1 : Int32} {v2 : Int32} {c : mm_C} (hf : hO 0 ovI n (bX12_staysFor_2 N  k2 v0 v1 v2 c) Q) : mG Z qX12_staysFor X k w mc ms Q (2, [(0, .ref v0), (1, .int v1), (2, .int v2)], [], (n, c)) := by
  unfold bX12_staysFor_2 at hf
  refine mg_iload_n C rfl rfl ?_
  refine mg_iload_n C rfl rfl ?_
  refine mg_iadd C rfl ?_
  refine mg_aload_n C rfl rfl ?_
  refine mh_gI C rfl rfl rfl (by decide) hf (fun x1 hf => ?_)
  refine mh_icmp_ge C rfl hf (fun e_9 hf => ?_) (fun e_9 hf => ?_)
  · refine mg_sub (lv' := [(2, .int v2)]) (by simp) ?_
    exact wX12_staysFor_35 C hRm hd hn hk hw hf
  · refine mg_aload_n C rfl rfl ?_
    refine mh_gR C rfl rfl rfl (by decide) hf (fun x2 hf => ?_)
    refine mg_iload_n C rfl rfl ?_
    refine mg_iload_n C rfl rfl ?_
    refine mg_iadd C rfl ?_
    refine mh_aI C rfl hf (fun x3 hf => ?_)
    refine mg_aload_n C rfl rfl ?_
    refine mh_gR C rfl rfl rfl (by decide) hf (fun x4 hf => ?_)
    refine mg_iload_n C rfl rfl ?_
    refine mh_aI C rfl hf (fun x5 hf => ?_)
    refine mh_icmp_ne C rfl hf (fun e_26 hf => ?_) (fun e_26 hf => ?_)
    · refine mg_sub (lv' := [(2, .int v2)]) (by simp) ?_
      exact wX12_staysFor_35 C hRm hd hn hk hw hf
    · refine mg_iinc (lv' := [(0, .ref v0), (1, .int v1), (2, .int (v2 + 1))]) C rfl (Nat.le_of_ble_eq_true rfl) rfl (show _ + Int32.ofInt 1 = _ + 1 by congr 1) rfl ?_
      refine mg_goto C rfl ?_
      exact hk2 _ _ _ _ hf
def lX12_staysFor_2 (N : Nat)  : Nat → Nat → Int32 → Int32 → mm_C → mR Int32
  | 0, _, _, _, _ => none
  | m + 1, v0, v1, v2, c => bX12_staysFor_2 N  (lX12_staysFor_2 N  m) v0 v1 v2 c
theorem WX12_staysFor_2 {Z : mm_Z} {X : mm_T} {k w mc ms d n N : Nat} {Q : mm_O → mm_H → Prop} (C : mm_Ok Z qX12_staysFor X) (hRm : mt_R X = mm_rm d mc ms) (hd : 1 ≤ d) (hn : n + 1 < 1000000) (hk : k + 1 ≤ mc) (hw : w + 6 ≤ ms) : ∀ (m : Nat) {v0 : Nat} {v1 : Int32} {v2 : Int32} {c : mm_C} (hf : hO 0 ovI n (lX12_staysFor_2 N  m v0 v1 v2 c) Q), mG Z qX12_staysFor X k w mc ms Q (2, [(0, .ref v0), (1, .int v1), (2, .int v2)], [], (n, c)) := by
  intro m
  induction m with
  | zero => intro v0 v1 v2 c hf; exact absurd hf hO_none
  | succ m ih => intro v0 v1 v2 c hf; exact wX12_staysFor_2 C hRm hd hn hk hw (fun v0 v1 v2 c hf => ih hf) hf
def bX12_staysFor_0 (N : Nat)  (v0 : Nat) (v1 : Int32) (c : mm_C) : mR Int32 :=
  lX12_staysFor_2 N  N v0 v1 (1 : Int32) c
set_option maxRecDepth 100000 in
theorem wX12_staysFor_0 {Z : mm_Z} {X : mm_T} {k w mc ms d n N : Nat} {Q : mm_O → mm_H → Prop} (C : mm_Ok Z qX12_staysFor X) (hRm : mt_R X = mm_rm d mc ms) (hd : 1 ≤ d) (hn : n + 1 < 1000000) (hk : k + 1 ≤ mc) (hw : w + 6 ≤ ms) {v0 : Nat} {v1 : Int32} {c : mm_C} (hf : hO 0 ovI n (bX12_staysFor_0 N  v0 v1 c) Q) : mG Z qX12_staysFor X k w mc ms Q (0, [(0, .ref v0), (1, .int v1)], [], (n, c)) := by
  unfold bX12_staysFor_0 at hf
  refine mg_iconst (v := 1) C rfl (by decide) ?_
  refine mg_istore_n (lv' := [(0, .ref v0), (1, .int v1), (2, .int (1 : Int32))]) C rfl (Nat.le_of_ble_eq_true rfl) rfl ?_
  exact WX12_staysFor_2 C hRm hd hn hk hw N hf
def fX12_staysFor (N : Nat) (v0 : Nat) (v1 : Int32) (c : mm_C) : mR Int32 := bX12_staysFor_0 N v0 v1 c
set_option maxRecDepth 100000 in
theorem wX12_staysFor {Z : mm_Z} {d n N : Nat} (hd : 1 ≤ d) (hn : n + 1 < 1000000) {v0 : Nat} {v1 : Int32} {c : mm_C} (hs : (fX12_staysFor N v0 v1 c).isSome = true) : mC Z qX12_staysFor d 1 6 [.ref v0, .int v1] (n, c) (mP 0 ovI n (fX12_staysFor N v0 v1 c)) := by
  refine mC_of gX12_staysFor (by decide +kernel) (Nat.le_of_ble_eq_true rfl) fun X C hRm => ?_
  have hf := hO_mP 0 ovI n hs
  have hk : 0 + 1 ≤ 1 := Nat.le_of_ble_eq_true rfl
  have hw : 0 + 6 ≤ 6 := Nat.le_of_ble_eq_true rfl
  show mG _ _ _ _ _ _ _ _ (0, [(0, .ref v0), (1, .int v1)], [], (n, c))
  exact wX12_staysFor_0 C hRm hd hn hk hw hf
def bX12_takes_83 (N : Nat)  (v2 : Int32) (c : mm_C) : mR Int32 :=
  rZ v2 c
set_option maxRecDepth 100000 in
theorem wX12_takes_83 {Z : mm_Z} {X : mm_T} {k w mc ms d n N : Nat} {Q : mm_O → mm_H → Prop} (C : mm_Ok Z qX12_takes X) (hRm : mt_R X = mm_rm d mc ms) (hd : 3 ≤ d) (hn : n + 1 < 1000000) (hk : k + 1 ≤ mc) (hw : w + 6 ≤ ms) {v2 : Int32} {c : mm_C} (hf : hO 0 ovI n (bX12_takes_83 N  v2 c) Q) : mG Z qX12_takes X k w mc ms Q (83, [(2, .int v2)], [], (n, c)) := by
  unfold bX12_takes_83 at hf
  refine mg_iload_n C rfl rfl ?_
  exact mh_zreturn C rfl (by omega) (by omega) rfl hf
def bX12_takes_0 (N : Nat)  (v0 : Nat) (v1 : Int32) (c : mm_C) : mR Int32 :=
  Option.bind (gR c v0 12 26) fun x1 => Option.bind (aI c x1 (0 : Int32)) fun x2 => cV 12 v0 c (fX12_endures N v0 v1 x2 c) fun r3 c4 => Option.bind (gR c4 v0 12 26) fun x5 => Option.bind (aI c4 x5 (0 : Int32)) fun x6 => cV 12 v0 c4 (fX12_goesFor N v0 v1 x6 c4) fun r7 c8 => Option.bind (gR c8 v0 12 26) fun x9 => Option.bind (aI c8 x9 (0 : Int32)) fun x10 => Option.bind (tI c8 x9 (0 : Int32) (x10 + r7)) fun c11 => Option.bind (gR c11 v0 12 26) fun x12 => Option.bind (aI c11 x12 (4 : Int32)) fun x13 => Option.bind (tI c11 x12 (4 : Int32) (x13 + r7)) fun c14 => Option.bind (gR c14 v0 12 26) fun x15 => Option.bind (tI c14 x15 (3 : Int32) (0 : Int32)) fun c16 => if r3 = 0 then (Option.bind (gR c16 v0 12 26) fun x17 => Option.bind (aI c16 x17 ((7 : Int32) + v1)) fun x18 => Option.bind (tI c16 x17 ((7 : Int32) + v1) (x18 + (1 : Int32))) fun c19 => bX12_takes_83 N  r3 c19) else (Option.bind (gR c16 v0 12 26) fun x20 => Option.bind (aI c16 x20 (2 : Int32)) fun x21 => Option.bind (tI c16 x20 (2 : Int32) (x21 ||| ((1 : Int32) <<< (v1 &&& 31)))) fun c22 => bX12_takes_83 N  r3 c22)
set_option maxRecDepth 100000 in
theorem wX12_takes_0 {Z : mm_Z} {X : mm_T} {k w mc ms d n N : Nat} {Q : mm_O → mm_H → Prop} (C : mm_Ok Z qX12_takes X) (hRm : mt_R X = mm_rm d mc ms) (hd : 3 ≤ d) (hn : n + 1 < 1000000) (hk : k + 1 ≤ mc) (hw : w + 6 ≤ ms) {v0 : Nat} {v1 : Int32} {c : mm_C} (hf : hO 0 ovI n (bX12_takes_0 N  v0 v1 c) Q) : mG Z qX12_takes X k w mc ms Q (0, [(0, .ref v0), (1, .int v1)], [], (n, c)) := by
  unfold bX12_takes_0 at hf
  refine mg_aload_n C rfl rfl ?_
  refine mg_iload_n C rfl rfl ?_
  refine mg_aload_n C rfl rfl ?_
  refine mh_gR C rfl rfl rfl (by decide) hf (fun x1 hf => ?_)
  refine mg_iconst (v := 0) C rfl (by decide) ?_
  refine mh_aI C rfl hf (fun x2 hf => ?_)
  refine mh_cVI (M' := qX12_endures) C rfl rfl aX12_endures iX12_endures sX12_endures hRm (by omega) (by decide) (by omega) (by omega) rfl rfl rfl (Nat.le_of_ble_eq_true rfl) rfl hf (fun hs => wX12_endures (by omega) (by omega) hs) (fun r3 c4 hf => ?_)
  refine mg_istore_n (lv' := [(0, .ref v0), (1, .int v1), (2, .int r3)]) C rfl (Nat.le_of_ble_eq_true rfl) rfl ?_
  refine mg_aload_n C rfl rfl ?_
  refine mg_iload_n C rfl rfl ?_
  refine mg_aload_n C rfl rfl ?_
  refine mh_gR C rfl rfl rfl (by decide) hf (fun x5 hf => ?_)
  refine mg_iconst (v := 0) C rfl (by decide) ?_
  refine mh_aI C rfl hf (fun x6 hf => ?_)
  refine mh_cVI (M' := qX12_goesFor) C rfl rfl aX12_goesFor iX12_goesFor sX12_goesFor hRm (by omega) (by decide) (by omega) (by omega) rfl rfl rfl (Nat.le_of_ble_eq_true rfl) rfl hf (fun hs => wX12_goesFor (by omega) (by omega) hs) (fun r7 c8 hf => ?_)
  refine mg_istore_n (lv' := [(0, .ref v0), (1, .int v1), (2, .int r3), (3, .int r7)]) C rfl (Nat.le_of_ble_eq_true rfl) rfl ?_
  refine mg_aload_n C rfl rfl ?_
  refine mh_gR C rfl rfl rfl (by decide) hf (fun x9 hf => ?_)
  refine mg_iconst (v := 0) C rfl (by decide) ?_
  refine mg_dup2 C rfl rfl rfl ?_
  refine mh_aI C rfl hf (fun x10 hf => ?_)
  refine mg_iload_n C rfl rfl ?_
  refine mg_iadd C rfl ?_
  refine mh_tI C rfl hf (fun c11 hf => ?_)
  refine mg_aload_n C rfl rfl ?_
  refine mh_gR C rfl rfl rfl (by decide) hf (fun x12 hf => ?_)
  refine mg_iconst (v := 4) C rfl (by decide) ?_
  refine mg_dup2 C rfl rfl rfl ?_
  refine mh_aI C rfl hf (fun x13 hf => ?_)
  refine mg_iload_n C rfl rfl ?_
  refine mg_iadd C rfl ?_
  refine mh_tI C rfl hf (fun c14 hf => ?_)
  refine mg_aload_n C rfl rfl ?_
  refine mh_gR C rfl rfl rfl (by decide) hf (fun x15 hf => ?_)
  refine mg_iconst (v := 3) C rfl (by decide) ?_
  refine mg_iconst (v := 0) C rfl (by decide) ?_
  refine mh_tI C rfl hf (fun c16 hf => ?_)
  refine mg_iload_n C rfl rfl ?_
  refine mh_if_eq C rfl hf (fun e_52 hf => ?_) (fun e_52 hf => ?_)
  · refine mg_aload_n C rfl rfl ?_
    refine mh_gR C rfl rfl rfl (by decide) hf (fun x17 hf => ?_)
    refine mg_bipush (v := 7) C rfl (by decide) ?_
    refine mg_iload_n C rfl rfl ?_
    refine mg_iadd C rfl ?_
    refine mg_dup2 C rfl rfl rfl ?_
    refine mh_aI C rfl hf (fun x18 hf => ?_)
    refine mg_iconst (v := 1) C rfl (by decide) ?_
    refine mg_iadd C rfl ?_
    refine mh_tI C rfl hf (fun c19 hf => ?_)
    refine mg_sub (lv' := [(2, .int r3)]) (by simp) ?_
    exact wX12_takes_83 C hRm hd hn hk hw hf
  · refine mg_aload_n C rfl rfl ?_
    refine mh_gR C rfl rfl rfl (by decide) hf (fun x20 hf => ?_)
    refine mg_iconst (v := 2) C rfl (by decide) ?_
    refine mg_dup2 C rfl rfl rfl ?_
    refine mh_aI C rfl hf (fun x21 hf => ?_)
    refine mg_iconst (v := 1) C rfl (by decide) ?_
    refine mg_iload_n C rfl rfl ?_
    refine mg_ishl C rfl ?_
    refine mg_ior C rfl ?_
    refine mh_tI C rfl hf (fun c22 hf => ?_)
    refine mg_goto C rfl ?_
    refine mg_sub (lv' := [(2, .int r3)]) (by simp) ?_
    exact wX12_takes_83 C hRm hd hn hk hw hf
def fX12_takes (N : Nat) (v0 : Nat) (v1 : Int32) (c : mm_C) : mR Int32 := bX12_takes_0 N v0 v1 c
set_option maxRecDepth 100000 in
theorem wX12_takes {Z : mm_Z} {d n N : Nat} (hd : 3 ≤ d) (hn : n + 1 < 1000000) {v0 : Nat} {v1 : Int32} {c : mm_C} (hs : (fX12_takes N v0 v1 c).isSome = true) : mC Z qX12_takes d 1 6 [.ref v0, .int v1] (n, c) (mP 0 ovI n (fX12_takes N v0 v1 c)) := by
  refine mC_of gX12_takes (by decide +kernel) (Nat.le_of_ble_eq_true rfl) fun X C hRm => ?_
  have hf := hO_mP 0 ovI n hs
  have hk : 0 + 1 ≤ 1 := Nat.le_of_ble_eq_true rfl
  have hw : 0 + 6 ≤ 6 := Nat.le_of_ble_eq_true rfl
  show mG _ _ _ _ _ _ _ _ (0, [(0, .ref v0), (1, .int v1)], [], (n, c))
  exact wX12_takes_0 C hRm hd hn hk hw hf
def bX12_moves_0 (N : Nat)  (v0 : Nat) (c : mm_C) : mR Unit :=
  Option.bind (gR c v0 12 26) fun x1 => Option.bind (aI c x1 (0 : Int32)) fun x2 => Option.bind (gR c v0 12 3) fun x3 => Option.bind (aI c x3 (2 : Int32)) fun x4 => Option.bind (tI c x1 (0 : Int32) (x2 + x4)) fun c5 => Option.bind (gR c5 v0 12 26) fun x6 => Option.bind (gR c5 v0 12 26) fun x7 => Option.bind (aI c5 x7 (1 : Int32)) fun x8 => Option.bind (tI c5 x6 (1 : Int32) ((1 : Int32) - x8)) fun c9 => Option.bind (gR c9 v0 12 26) fun x10 => Option.bind (tI c9 x10 (3 : Int32) (0 : Int32)) fun c11 => some (.inl (), c11)
set_option maxRecDepth 100000 in
theorem wX12_moves_0 {Z : mm_Z} {X : mm_T} {k w mc ms d n N : Nat} {Q : mm_O → mm_H → Prop} (C : mm_Ok Z qX12_moves X) (hRm : mt_R X = mm_rm d mc ms) (hd : 1 ≤ d) (hn : n + 1 < 1000000) (hk : k + 1 ≤ mc) (hw : w + 6 ≤ ms) {v0 : Nat} {c : mm_C} (hf : hO 0 ovU n (bX12_moves_0 N  v0 c) Q) : mG Z qX12_moves X k w mc ms Q (0, [(0, .ref v0)], [], (n, c)) := by
  unfold bX12_moves_0 at hf
  refine mg_aload_n C rfl rfl ?_
  refine mh_gR C rfl rfl rfl (by decide) hf (fun x1 hf => ?_)
  refine mg_iconst (v := 0) C rfl (by decide) ?_
  refine mg_dup2 C rfl rfl rfl ?_
  refine mh_aI C rfl hf (fun x2 hf => ?_)
  refine mg_aload_n C rfl rfl ?_
  refine mh_gR C rfl rfl rfl (by decide) hf (fun x3 hf => ?_)
  refine mg_iconst (v := 2) C rfl (by decide) ?_
  refine mh_aI C rfl hf (fun x4 hf => ?_)
  refine mg_iadd C rfl ?_
  refine mh_tI C rfl hf (fun c5 hf => ?_)
  refine mg_aload_n C rfl rfl ?_
  refine mh_gR C rfl rfl rfl (by decide) hf (fun x6 hf => ?_)
  refine mg_iconst (v := 1) C rfl (by decide) ?_
  refine mg_iconst (v := 1) C rfl (by decide) ?_
  refine mg_aload_n C rfl rfl ?_
  refine mh_gR C rfl rfl rfl (by decide) hf (fun x7 hf => ?_)
  refine mg_iconst (v := 1) C rfl (by decide) ?_
  refine mh_aI C rfl hf (fun x8 hf => ?_)
  refine mg_isub C rfl ?_
  refine mh_tI C rfl hf (fun c9 hf => ?_)
  refine mg_aload_n C rfl rfl ?_
  refine mh_gR C rfl rfl rfl (by decide) hf (fun x10 hf => ?_)
  refine mg_iconst (v := 3) C rfl (by decide) ?_
  refine mg_iconst (v := 0) C rfl (by decide) ?_
  refine mh_tI C rfl hf (fun c11 hf => ?_)
  exact mh_return C rfl (by omega) (by omega) rfl hf
def fX12_moves (N : Nat) (v0 : Nat) (c : mm_C) : mR Unit := bX12_moves_0 N v0 c
set_option maxRecDepth 100000 in
theorem wX12_moves {Z : mm_Z} {d n N : Nat} (hd : 1 ≤ d) (hn : n + 1 < 1000000) {v0 : Nat} {c : mm_C} (hs : (fX12_moves N v0 c).isSome = true) : mC Z qX12_moves d 1 6 [.ref v0] (n, c) (mP 0 ovU n (fX12_moves N v0 c)) := by
  refine mC_of gX12_moves (by decide +kernel) (Nat.le_of_ble_eq_true rfl) fun X C hRm => ?_
  have hf := hO_mP 0 ovU n hs
  have hk : 0 + 1 ≤ 1 := Nat.le_of_ble_eq_true rfl
  have hw : 0 + 6 ≤ 6 := Nat.le_of_ble_eq_true rfl
  show mG _ _ _ _ _ _ _ _ (0, [(0, .ref v0)], [], (n, c))
  exact wX12_moves_0 C hRm hd hn hk hw hf
def bX12_count_187 (N : Nat)  (v0 : Nat) (v1 : Int32) (c : mm_C) : mR Int32 :=
  Option.bind (gR c v0 12 14) fun x1 => Option.bind (aI c x1 (v1 - (16 : Int32))) fun x2 => some (.inl x2, c)
set_option maxRecDepth 100000 in
theorem wX12_count_187 {Z : mm_Z} {X : mm_T} {k w mc ms d n N : Nat} {Q : mm_O → mm_H → Prop} (C : mm_Ok Z qX12_count X) (hRm : mt_R X = mm_rm d mc ms) (hd : 2 ≤ d) (hn : n + 1 < 1000000) (hk : k + 1 ≤ mc) (hw : w + 6 ≤ ms) {v0 : Nat} {v1 : Int32} {c : mm_C} (hf : hO 0 ovI n (bX12_count_187 N  v0 v1 c) Q) : mG Z qX12_count X k w mc ms Q (187, [(0, .ref v0), (1, .int v1)], [], (n, c)) := by
  unfold bX12_count_187 at hf
  refine mg_aload_n C rfl rfl ?_
  refine mh_gR C rfl rfl rfl (by decide) hf (fun x1 hf => ?_)
  refine mg_iload_n C rfl rfl ?_
  refine mg_bipush (v := 16) C rfl (by decide) ?_
  refine mg_isub C rfl ?_
  refine mh_aI C rfl hf (fun x2 hf => ?_)
  exact mh_ireturn C rfl (by omega) (by omega) rfl hf
def bX12_count_96 (N : Nat)  (v0 : Nat) (v1 : Int32) (c : mm_C) : mR Int32 :=
  Option.bind (gR c v0 12 3) fun x1 => Option.bind (aI c x1 v1) fun x2 => some (.inl x2, c)
set_option maxRecDepth 100000 in
theorem wX12_count_96 {Z : mm_Z} {X : mm_T} {k w mc ms d n N : Nat} {Q : mm_O → mm_H → Prop} (C : mm_Ok Z qX12_count X) (hRm : mt_R X = mm_rm d mc ms) (hd : 2 ≤ d) (hn : n + 1 < 1000000) (hk : k + 1 ≤ mc) (hw : w + 6 ≤ ms) {v0 : Nat} {v1 : Int32} {c : mm_C} (hf : hO 0 ovI n (bX12_count_96 N  v0 v1 c) Q) : mG Z qX12_count X k w mc ms Q (96, [(0, .ref v0), (1, .int v1)], [], (n, c)) := by
  unfold bX12_count_96 at hf
  refine mg_aload_n C rfl rfl ?_
  refine mh_gR C rfl rfl rfl (by decide) hf (fun x1 hf => ?_)
  refine mg_iload_n C rfl rfl ?_
  refine mh_aI C rfl hf (fun x2 hf => ?_)
  exact mh_ireturn C rfl (by omega) (by omega) rfl hf
def bX12_count_0 (N : Nat)  (v0 : Nat) (v1 : Int32) (c : mm_C) : mR Int32 :=
  Option.bind (pI c v0 12 2 (0 : Int32)) fun c1 => if v1 = (0 : Int32) then (bX12_count_96 N  v0 v1 c1) else (if v1 = (1 : Int32) then (bX12_count_96 N  v0 v1 c1) else (if v1 = (2 : Int32) then (bX12_count_96 N  v0 v1 c1) else (if v1 = (3 : Int32) then (bX12_count_96 N  v0 v1 c1) else (if v1 = (4 : Int32) then (bX12_count_96 N  v0 v1 c1) else (if v1 = (5 : Int32) then (Option.bind (gR c1 v0 12 26) fun x2 => Option.bind (aI c1 x2 (0 : Int32)) fun x3 => some (.inl x3, c1)) else (if v1 = (6 : Int32) then (Option.bind (gR c1 v0 12 26) fun x4 => Option.bind (aI c1 x4 (1 : Int32)) fun x5 => some (.inl x5, c1)) else (if v1 = (7 : Int32) then (Option.bind (gR c1 v0 12 26) fun x6 => Option.bind (aI c1 x6 (2 : Int32)) fun x7 => some (.inl x7, c1)) else (if v1 = (8 : Int32) then (Option.bind (gR c1 v0 12 26) fun x8 => Option.bind (aI c1 x8 (4 : Int32)) fun x9 => some (.inl x9, c1)) else (if v1 = (9 : Int32) then (Option.bind (gR c1 v0 12 26) fun x10 => Option.bind (aI c1 x10 (5 : Int32)) fun x11 => some (.inl x11, c1)) else (if v1 = (10 : Int32) then (Option.bind (gR c1 v0 12 26) fun x12 => Option.bind (aI c1 x12 (6 : Int32)) fun x13 => some (.inl x13, c1)) else (if v1 = (11 : Int32) then (Option.bind (gR c1 v0 12 26) fun x14 => Option.bind (aI c1 x14 (3 : Int32)) fun x15 => some (.inl x15, c1)) else (if v1 = (12 : Int32) then (Option.bind (gR c1 v0 12 3) fun x16 => Option.bind (aI c1 x16 (3 : Int32)) fun x17 => Option.bind (gR c1 v0 12 26) fun x18 => Option.bind (aI c1 x18 (3 : Int32)) fun x19 => some (.inl (mnI (100 : Int32) (x17 * x19)), c1)) else (if v1 = (13 : Int32) then (Option.bind (gI c1 v0 12 28) fun x20 => some (.inl x20, c1)) else (if v1 = (14 : Int32) then (Option.bind (gI c1 v0 12 29) fun x21 => some (.inl x21, c1)) else (if v1 = (15 : Int32) then (Option.bind (gI c1 v0 12 16) fun x22 => some (.inl x22, c1)) else (if v1 = (16 : Int32) then (bX12_count_187 N  v0 v1 c1) else (if v1 = (17 : Int32) then (bX12_count_187 N  v0 v1 c1) else (if v1 = (18 : Int32) then (bX12_count_187 N  v0 v1 c1) else (cV 12 v0 c1 (fX12_fail N v0 (1 : Int32) c1) fun r23 c24 => some (.inl r23, c24))))))))))))))))))))
set_option maxRecDepth 100000 in
theorem wX12_count_0 {Z : mm_Z} {X : mm_T} {k w mc ms d n N : Nat} {Q : mm_O → mm_H → Prop} (C : mm_Ok Z qX12_count X) (hRm : mt_R X = mm_rm d mc ms) (hd : 2 ≤ d) (hn : n + 1 < 1000000) (hk : k + 1 ≤ mc) (hw : w + 6 ≤ ms) {v0 : Nat} {v1 : Int32} {c : mm_C} (hf : hO 0 ovI n (bX12_count_0 N  v0 v1 c) Q) : mG Z qX12_count X k w mc ms Q (0, [(0, .ref v0), (1, .int v1)], [], (n, c)) := by
  unfold bX12_count_0 at hf
  refine mg_aload_n C rfl rfl ?_
  refine mg_iconst (v := 0) C rfl (by decide) ?_
  refine mh_pI C rfl rfl rfl (by decide) rfl rfl rfl hf (fun c1 hf => ?_)
  refine mg_iload_n C rfl rfl ?_
  refine mh_case hf (fun e_6 hf => ?_) (fun n_1000 hf => ?_)
  · refine mg_tabIn e_6 (tgt := 96) C rfl (by decide) (by decide) rfl (by decide) ?_
    exact wX12_count_96 C hRm hd hn hk hw hf
  refine mh_case hf (fun e_6 hf => ?_) (fun n_1001 hf => ?_)
  · refine mg_tabIn e_6 (tgt := 96) C rfl (by decide) (by decide) rfl (by decide) ?_
    exact wX12_count_96 C hRm hd hn hk hw hf
  refine mh_case hf (fun e_6 hf => ?_) (fun n_1002 hf => ?_)
  · refine mg_tabIn e_6 (tgt := 96) C rfl (by decide) (by decide) rfl (by decide) ?_
    exact wX12_count_96 C hRm hd hn hk hw hf
  refine mh_case hf (fun e_6 hf => ?_) (fun n_1003 hf => ?_)
  · refine mg_tabIn e_6 (tgt := 96) C rfl (by decide) (by decide) rfl (by decide) ?_
    exact wX12_count_96 C hRm hd hn hk hw hf
  refine mh_case hf (fun e_6 hf => ?_) (fun n_1004 hf => ?_)
  · refine mg_tabIn e_6 (tgt := 96) C rfl (by decide) (by decide) rfl (by decide) ?_
    exact wX12_count_96 C hRm hd hn hk hw hf
  refine mh_case hf (fun e_6 hf => ?_) (fun n_1005 hf => ?_)
  · refine mg_tabIn e_6 (tgt := 103) C rfl (by decide) (by decide) rfl (by decide) ?_
    refine mg_aload_n C rfl rfl ?_
    refine mh_gR C rfl rfl rfl (by decide) hf (fun x2 hf => ?_)
    refine mg_iconst (v := 0) C rfl (by decide) ?_
    refine mh_aI C rfl hf (fun x3 hf => ?_)
    exact mh_ireturn C rfl (by omega) (by omega) rfl hf
  refine mh_case hf (fun e_6 hf => ?_) (fun n_1006 hf => ?_)
  · refine mg_tabIn e_6 (tgt := 110) C rfl (by decide) (by decide) rfl (by decide) ?_
    refine mg_aload_n C rfl rfl ?_
    refine mh_gR C rfl rfl rfl (by decide) hf (fun x4 hf => ?_)
    refine mg_iconst (v := 1) C rfl (by decide) ?_
    refine mh_aI C rfl hf (fun x5 hf => ?_)
    exact mh_ireturn C rfl (by omega) (by omega) rfl hf
  refine mh_case hf (fun e_6 hf => ?_) (fun n_1007 hf => ?_)
  · refine mg_tabIn e_6 (tgt := 117) C rfl (by decide) (by decide) rfl (by decide) ?_
    refine mg_aload_n C rfl rfl ?_
    refine mh_gR C rfl rfl rfl (by decide) hf (fun x6 hf => ?_)
    refine mg_iconst (v := 2) C rfl (by decide) ?_
    refine mh_aI C rfl hf (fun x7 hf => ?_)
    exact mh_ireturn C rfl (by omega) (by omega) rfl hf
  refine mh_case hf (fun e_6 hf => ?_) (fun n_1008 hf => ?_)
  · refine mg_tabIn e_6 (tgt := 124) C rfl (by decide) (by decide) rfl (by decide) ?_
    refine mg_aload_n C rfl rfl ?_
    refine mh_gR C rfl rfl rfl (by decide) hf (fun x8 hf => ?_)
    refine mg_iconst (v := 4) C rfl (by decide) ?_
    refine mh_aI C rfl hf (fun x9 hf => ?_)
    exact mh_ireturn C rfl (by omega) (by omega) rfl hf
  refine mh_case hf (fun e_6 hf => ?_) (fun n_1009 hf => ?_)
  · refine mg_tabIn e_6 (tgt := 131) C rfl (by decide) (by decide) rfl (by decide) ?_
    refine mg_aload_n C rfl rfl ?_
    refine mh_gR C rfl rfl rfl (by decide) hf (fun x10 hf => ?_)
    refine mg_iconst (v := 5) C rfl (by decide) ?_
    refine mh_aI C rfl hf (fun x11 hf => ?_)
    exact mh_ireturn C rfl (by omega) (by omega) rfl hf
  refine mh_case hf (fun e_6 hf => ?_) (fun n_1010 hf => ?_)
  · refine mg_tabIn e_6 (tgt := 138) C rfl (by decide) (by decide) rfl (by decide) ?_
    refine mg_aload_n C rfl rfl ?_
    refine mh_gR C rfl rfl rfl (by decide) hf (fun x12 hf => ?_)
    refine mg_bipush (v := 6) C rfl (by decide) ?_
    refine mh_aI C rfl hf (fun x13 hf => ?_)
    exact mh_ireturn C rfl (by omega) (by omega) rfl hf
  refine mh_case hf (fun e_6 hf => ?_) (fun n_1011 hf => ?_)
  · refine mg_tabIn e_6 (tgt := 146) C rfl (by decide) (by decide) rfl (by decide) ?_
    refine mg_aload_n C rfl rfl ?_
    refine mh_gR C rfl rfl rfl (by decide) hf (fun x14 hf => ?_)
    refine mg_iconst (v := 3) C rfl (by decide) ?_
    refine mh_aI C rfl hf (fun x15 hf => ?_)
    exact mh_ireturn C rfl (by omega) (by omega) rfl hf
  refine mh_case hf (fun e_6 hf => ?_) (fun n_1012 hf => ?_)
  · refine mg_tabIn e_6 (tgt := 153) C rfl (by decide) (by decide) rfl (by decide) ?_
    refine mg_bipush (v := 100) C rfl (by decide) ?_
    refine mg_aload_n C rfl rfl ?_
    refine mh_gR C rfl rfl rfl (by decide) hf (fun x16 hf => ?_)
    refine mg_iconst (v := 3) C rfl (by decide) ?_
    refine mh_aI C rfl hf (fun x17 hf => ?_)
    refine mg_aload_n C rfl rfl ?_
    refine mh_gR C rfl rfl rfl (by decide) hf (fun x18 hf => ?_)
    refine mg_iconst (v := 3) C rfl (by decide) ?_
    refine mh_aI C rfl hf (fun x19 hf => ?_)
    refine mg_imul C rfl ?_
    refine mh_mnI C rfl rfl hRm (by omega) (Nat.le_of_ble_eq_true rfl) ?_
    exact mh_ireturn C rfl (by omega) (by omega) rfl hf
  refine mh_case hf (fun e_6 hf => ?_) (fun n_1013 hf => ?_)
  · refine mg_tabIn e_6 (tgt := 172) C rfl (by decide) (by decide) rfl (by decide) ?_
    refine mg_aload_n C rfl rfl ?_
    refine mh_gI C rfl rfl rfl (by decide) hf (fun x20 hf => ?_)
    exact mh_ireturn C rfl (by omega) (by omega) rfl hf
  refine mh_case hf (fun e_6 hf => ?_) (fun n_1014 hf => ?_)
  · refine mg_tabIn e_6 (tgt := 177) C rfl (by decide) (by decide) rfl (by decide) ?_
    refine mg_aload_n C rfl rfl ?_
    refine mh_gI C rfl rfl rfl (by decide) hf (fun x21 hf => ?_)
    exact mh_ireturn C rfl (by omega) (by omega) rfl hf
  refine mh_case hf (fun e_6 hf => ?_) (fun n_1015 hf => ?_)
  · refine mg_tabIn e_6 (tgt := 182) C rfl (by decide) (by decide) rfl (by decide) ?_
    refine mg_aload_n C rfl rfl ?_
    refine mh_gI C rfl rfl rfl (by decide) hf (fun x22 hf => ?_)
    exact mh_ireturn C rfl (by omega) (by omega) rfl hf
  refine mh_case hf (fun e_6 hf => ?_) (fun n_1016 hf => ?_)
  · refine mg_tabIn e_6 (tgt := 187) C rfl (by decide) (by decide) rfl (by decide) ?_
    exact wX12_count_187 C hRm hd hn hk hw hf
  refine mh_case hf (fun e_6 hf => ?_) (fun n_1017 hf => ?_)
  · refine mg_tabIn e_6 (tgt := 187) C rfl (by decide) (by decide) rfl (by decide) ?_
    exact wX12_count_187 C hRm hd hn hk hw hf
  refine mh_case hf (fun e_6 hf => ?_) (fun n_1018 hf => ?_)
  · refine mg_tabIn e_6 (tgt := 187) C rfl (by decide) (by decide) rfl (by decide) ?_
    exact wX12_count_187 C hRm hd hn hk hw hf
  refine mg_tableOut (tgt := 197) C rfl (tsw_out [0, 1, 2, 3, 4, 5, 6, 7, 8, 9, 10, 11, 12, 13, 14, 15, 16, 17, 18] (by decide) (List.forall_mem_cons.mpr ⟨n_1000, List.forall_mem_cons.mpr ⟨n_1001, List.forall_mem_cons.mpr ⟨n_1002, List.forall_mem_cons.mpr ⟨n_1003, List.forall_mem_cons.mpr ⟨n_1004, List.forall_mem_cons.mpr ⟨n_1005, List.forall_mem_cons.mpr ⟨n_1006, List.forall_mem_cons.mpr ⟨n_1007, List.forall_mem_cons.mpr ⟨n_1008, List.forall_mem_cons.mpr ⟨n_1009, List.forall_mem_cons.mpr ⟨n_1010, List.forall_mem_cons.mpr ⟨n_1011, List.forall_mem_cons.mpr ⟨n_1012, List.forall_mem_cons.mpr ⟨n_1013, List.forall_mem_cons.mpr ⟨n_1014, List.forall_mem_cons.mpr ⟨n_1015, List.forall_mem_cons.mpr ⟨n_1016, List.forall_mem_cons.mpr ⟨n_1017, List.forall_mem_cons.mpr ⟨n_1018, List.forall_mem_nil _⟩⟩⟩⟩⟩⟩⟩⟩⟩⟩⟩⟩⟩⟩⟩⟩⟩⟩⟩)) (by decide) ?_
  refine mg_aload_n C rfl rfl ?_
  refine mg_iconst (v := 1) C rfl (by decide) ?_
  refine mh_cVI (M' := qX12_fail) C rfl rfl aX12_fail iX12_fail sX12_fail hRm (by omega) (by decide) (by omega) (by omega) rfl rfl rfl (Nat.le_of_ble_eq_true rfl) rfl hf (fun hs => wX12_fail (by omega) (by omega) hs) (fun r23 c24 hf => ?_)
  exact mh_ireturn C rfl (by omega) (by omega) rfl hf
def fX12_count (N : Nat) (v0 : Nat) (v1 : Int32) (c : mm_C) : mR Int32 := bX12_count_0 N v0 v1 c
set_option maxRecDepth 100000 in
theorem wX12_count {Z : mm_Z} {d n N : Nat} (hd : 2 ≤ d) (hn : n + 1 < 1000000) {v0 : Nat} {v1 : Int32} {c : mm_C} (hs : (fX12_count N v0 v1 c).isSome = true) : mC Z qX12_count d 1 6 [.ref v0, .int v1] (n, c) (mP 0 ovI n (fX12_count N v0 v1 c)) := by
  refine mC_of gX12_count (by decide +kernel) (Nat.le_of_ble_eq_true rfl) fun X C hRm => ?_
  have hf := hO_mP 0 ovI n hs
  have hk : 0 + 1 ≤ 1 := Nat.le_of_ble_eq_true rfl
  have hw : 0 + 6 ≤ 6 := Nat.le_of_ble_eq_true rfl
  show mG _ _ _ _ _ _ _ _ (0, [(0, .ref v0), (1, .int v1)], [], (n, c))
  exact wX12_count_0 C hRm hd hn hk hw hf
def bX12_shot_0 (N : Nat)  (v0 : Nat) (v1 : Int32) (v2 : Int32) (c : mm_C) : mR Int32 :=
  Option.bind (pI c v0 12 2 (0 : Int32)) fun c1 => cV 12 v0 c1 (fX12_isShot N v0 v1 c1) fun r2 c3 => if ¬ r2 = 0 then (if v2 = (0 : Int32) then (Option.bind (gR c3 v0 12 4) fun x4 => Option.bind (aI c3 x4 v1) fun x5 => some (.inl x5, c3)) else (if v2 = (1 : Int32) then (Option.bind (gR c3 v0 12 5) fun x6 => Option.bind (aI c3 x6 v1) fun x7 => some (.inl x7, c3)) else (if v2 = (2 : Int32) then (Option.bind (gR c3 v0 12 6) fun x8 => Option.bind (aI c3 x8 v1) fun x9 => some (.inl x9, c3)) else (if v2 = (3 : Int32) then (Option.bind (gR c3 v0 12 7) fun x10 => Option.bind (aI c3 x10 v1) fun x11 => some (.inl x11, c3)) else (if v2 = (4 : Int32) then (Option.bind (gR c3 v0 12 8) fun x12 => Option.bind (aI c3 x12 v1) fun x13 => some (.inl x13, c3)) else (if v2 = (5 : Int32) then (Option.bind (gR c3 v0 12 9) fun x14 => Option.bind (aI c3 x14 v1) fun x15 => some (.inl x15, c3)) else (if v2 = (6 : Int32) then (Option.bind (gR c3 v0 12 26) fun x16 => Option.bind (aI c3 x16 (2 : Int32)) fun x17 => cS (fX12_isOf N x17 v1 c3) fun r18 c19 => if r18 = 0 then (some (.inl (0 : Int32), c19)) else (some (.inl (1 : Int32), c19))) else (if v2 = (7 : Int32) then (Option.bind (gR c3 v0 12 26) fun x20 => Option.bind (aI c3 x20 ((7 : Int32) + v1)) fun x21 => some (.inl x21, c3)) else (cV 12 v0 c3 (fX12_fail N v0 (1 : Int32) c3) fun r22 c23 => some (.inl r22, c23)))))))))) else (cV 12 v0 c3 (fX12_fail N v0 (1 : Int32) c3) fun r24 c25 => some (.inl r24, c25))
set_option maxRecDepth 100000 in
theorem wX12_shot_0 {Z : mm_Z} {X : mm_T} {k w mc ms d n N : Nat} {Q : mm_O → mm_H → Prop} (C : mm_Ok Z qX12_shot X) (hRm : mt_R X = mm_rm d mc ms) (hd : 3 ≤ d) (hn : n + 1 < 1000000) (hk : k + 1 ≤ mc) (hw : w + 6 ≤ ms) {v0 : Nat} {v1 : Int32} {v2 : Int32} {c : mm_C} (hf : hO 0 ovI n (bX12_shot_0 N  v0 v1 v2 c) Q) : mG Z qX12_shot X k w mc ms Q (0, [(0, .ref v0), (1, .int v1), (2, .int v2)], [], (n, c)) := by
  unfold bX12_shot_0 at hf
  refine mg_aload_n C rfl rfl ?_
  refine mg_iconst (v := 0) C rfl (by decide) ?_
  refine mh_pI C rfl rfl rfl (by decide) rfl rfl rfl hf (fun c1 hf => ?_)
  refine mg_aload_n C rfl rfl ?_
  refine mg_iload_n C rfl rfl ?_
  refine mh_cVI (M' := qX12_isShot) C rfl rfl aX12_isShot iX12_isShot sX12_isShot hRm (by omega) (by decide) (by omega) (by omega) rfl rfl rfl (Nat.le_of_ble_eq_true rfl) rfl hf (fun hs => wX12_isShot (by omega) (by omega) hs) (fun r2 c3 hf => ?_)
  refine mh_if_ne C rfl hf (fun e_10 hf => ?_) (fun e_10 hf => ?_)
  · refine mg_iload_n C rfl rfl ?_
    refine mh_case hf (fun e_20 hf => ?_) (fun n_1000 hf => ?_)
    · refine mg_tabIn e_20 (tgt := 68) C rfl (by decide) (by decide) rfl (by decide) ?_
      refine mg_aload_n C rfl rfl ?_
      refine mh_gR C rfl rfl rfl (by decide) hf (fun x4 hf => ?_)
      refine mg_iload_n C rfl rfl ?_
      refine mh_aI C rfl hf (fun x5 hf => ?_)
      exact mh_ireturn C rfl (by omega) (by omega) rfl hf
    refine mh_case hf (fun e_20 hf => ?_) (fun n_1001 hf => ?_)
    · refine mg_tabIn e_20 (tgt := 75) C rfl (by decide) (by decide) rfl (by decide) ?_
      refine mg_aload_n C rfl rfl ?_
      refine mh_gR C rfl rfl rfl (by decide) hf (fun x6 hf => ?_)
      refine mg_iload_n C rfl rfl ?_
      refine mh_aI C rfl hf (fun x7 hf => ?_)
      exact mh_ireturn C rfl (by omega) (by omega) rfl hf
    refine mh_case hf (fun e_20 hf => ?_) (fun n_1002 hf => ?_)
    · refine mg_tabIn e_20 (tgt := 82) C rfl (by decide) (by decide) rfl (by decide) ?_
      refine mg_aload_n C rfl rfl ?_
      refine mh_gR C rfl rfl rfl (by decide) hf (fun x8 hf => ?_)
      refine mg_iload_n C rfl rfl ?_
      refine mh_aI C rfl hf (fun x9 hf => ?_)
      exact mh_ireturn C rfl (by omega) (by omega) rfl hf
    refine mh_case hf (fun e_20 hf => ?_) (fun n_1003 hf => ?_)
    · refine mg_tabIn e_20 (tgt := 89) C rfl (by decide) (by decide) rfl (by decide) ?_
      refine mg_aload_n C rfl rfl ?_
      refine mh_gR C rfl rfl rfl (by decide) hf (fun x10 hf => ?_)
      refine mg_iload_n C rfl rfl ?_
      refine mh_aI C rfl hf (fun x11 hf => ?_)
      exact mh_ireturn C rfl (by omega) (by omega) rfl hf
    refine mh_case hf (fun e_20 hf => ?_) (fun n_1004 hf => ?_)
    · refine mg_tabIn e_20 (tgt := 96) C rfl (by decide) (by decide) rfl (by decide) ?_
      refine mg_aload_n C rfl rfl ?_
      refine mh_gR C rfl rfl rfl (by decide) hf (fun x12 hf => ?_)
      refine mg_iload_n C rfl rfl ?_
      refine mh_aI C rfl hf (fun x13 hf => ?_)
      exact mh_ireturn C rfl (by omega) (by omega) rfl hf
    refine mh_case hf (fun e_20 hf => ?_) (fun n_1005 hf => ?_)
    · refine mg_tabIn e_20 (tgt := 103) C rfl (by decide) (by decide) rfl (by decide) ?_
      refine mg_aload_n C rfl rfl ?_
      refine mh_gR C rfl rfl rfl (by decide) hf (fun x14 hf => ?_)
      refine mg_iload_n C rfl rfl ?_
      refine mh_aI C rfl hf (fun x15 hf => ?_)
      exact mh_ireturn C rfl (by omega) (by omega) rfl hf
    refine mh_case hf (fun e_20 hf => ?_) (fun n_1006 hf => ?_)
    · refine mg_tabIn e_20 (tgt := 110) C rfl (by decide) (by decide) rfl (by decide) ?_
      refine mg_aload_n C rfl rfl ?_
      refine mh_gR C rfl rfl rfl (by decide) hf (fun x16 hf => ?_)
      refine mg_iconst (v := 2) C rfl (by decide) ?_
      refine mh_aI C rfl hf (fun x17 hf => ?_)
      refine mg_iload_n C rfl rfl ?_
      refine mh_cSI (M' := qX12_isOf) C rfl rfl aX12_isOf tX12_isOf hRm (by omega) (by decide) (by omega) (by omega) rfl rfl (Nat.le_of_ble_eq_true rfl) rfl hf (fun hs => wX12_isOf (by omega) (by omega) hs) (fun r18 c19 hf => ?_)
      refine mh_if_eq C rfl hf (fun e_120 hf => ?_) (fun e_120 hf => ?_)
      · refine mg_iconst (v := 0) C rfl (by decide) ?_
        exact mh_ireturn C rfl (by omega) (by omega) rfl hf
      · refine mg_iconst (v := 1) C rfl (by decide) ?_
        refine mg_goto C rfl ?_
        exact mh_ireturn C rfl (by omega) (by omega) rfl hf
    refine mh_case hf (fun e_20 hf => ?_) (fun n_1007 hf => ?_)
    · refine mg_tabIn e_20 (tgt := 129) C rfl (by decide) (by decide) rfl (by decide) ?_
      refine mg_aload_n C rfl rfl ?_
      refine mh_gR C rfl rfl rfl (by decide) hf (fun x20 hf => ?_)
      refine mg_bipush (v := 7) C rfl (by decide) ?_
      refine mg_iload_n C rfl rfl ?_
      refine mg_iadd C rfl ?_
      refine mh_aI C rfl hf (fun x21 hf => ?_)
      exact mh_ireturn C rfl (by omega) (by omega) rfl hf
    refine mg_tableOut (tgt := 139) C rfl (tsw_out [0, 1, 2, 3, 4, 5, 6, 7] (by decide) (List.forall_mem_cons.mpr ⟨n_1000, List.forall_mem_cons.mpr ⟨n_1001, List.forall_mem_cons.mpr ⟨n_1002, List.forall_mem_cons.mpr ⟨n_1003, List.forall_mem_cons.mpr ⟨n_1004, List.forall_mem_cons.mpr ⟨n_1005, List.forall_mem_cons.mpr ⟨n_1006, List.forall_mem_cons.mpr ⟨n_1007, List.forall_mem_nil _⟩⟩⟩⟩⟩⟩⟩⟩)) (by decide) ?_
    refine mg_aload_n C rfl rfl ?_
    refine mg_iconst (v := 1) C rfl (by decide) ?_
    refine mh_cVI (M' := qX12_fail) C rfl rfl aX12_fail iX12_fail sX12_fail hRm (by omega) (by decide) (by omega) (by omega) rfl rfl rfl (Nat.le_of_ble_eq_true rfl) rfl hf (fun hs => wX12_fail (by omega) (by omega) hs) (fun r22 c23 hf => ?_)
    exact mh_ireturn C rfl (by omega) (by omega) rfl hf
  · refine mg_aload_n C rfl rfl ?_
    refine mg_iconst (v := 1) C rfl (by decide) ?_
    refine mh_cVI (M' := qX12_fail) C rfl rfl aX12_fail iX12_fail sX12_fail hRm (by omega) (by decide) (by omega) (by omega) rfl rfl rfl (Nat.le_of_ble_eq_true rfl) rfl hf (fun hs => wX12_fail (by omega) (by omega) hs) (fun r24 c25 hf => ?_)
    exact mh_ireturn C rfl (by omega) (by omega) rfl hf
def fX12_shot (N : Nat) (v0 : Nat) (v1 : Int32) (v2 : Int32) (c : mm_C) : mR Int32 := bX12_shot_0 N v0 v1 v2 c
set_option maxRecDepth 100000 in
theorem wX12_shot {Z : mm_Z} {d n N : Nat} (hd : 3 ≤ d) (hn : n + 1 < 1000000) {v0 : Nat} {v1 : Int32} {v2 : Int32} {c : mm_C} (hs : (fX12_shot N v0 v1 v2 c).isSome = true) : mC Z qX12_shot d 1 6 [.ref v0, .int v1, .int v2] (n, c) (mP 0 ovI n (fX12_shot N v0 v1 v2 c)) := by
  refine mC_of gX12_shot (by decide +kernel) (Nat.le_of_ble_eq_true rfl) fun X C hRm => ?_
  have hf := hO_mP 0 ovI n hs
  have hk : 0 + 1 ≤ 1 := Nat.le_of_ble_eq_true rfl
  have hw : 0 + 6 ≤ 6 := Nat.le_of_ble_eq_true rfl
  show mG _ _ _ _ _ _ _ _ (0, [(0, .ref v0), (1, .int v1), (2, .int v2)], [], (n, c))
  exact wX12_shot_0 C hRm hd hn hk hw hf
def bX12_set_0 (N : Nat)  (v0 : Nat) (c : mm_C) : mR Unit :=
  Option.bind (gR c v0 12 3) fun x1 => Option.bind (aI c x1 (1 : Int32)) fun x2 => Option.bind (pI c v0 12 30 x2) fun c3 => some (.inl (), c3)
set_option maxRecDepth 100000 in
theorem wX12_set_0 {Z : mm_Z} {X : mm_T} {k w mc ms d n N : Nat} {Q : mm_O → mm_H → Prop} (C : mm_Ok Z qX12_set X) (hRm : mt_R X = mm_rm d mc ms) (hd : 1 ≤ d) (hn : n + 1 < 1000000) (hk : k + 1 ≤ mc) (hw : w + 6 ≤ ms) {v0 : Nat} {c : mm_C} (hf : hO 0 ovU n (bX12_set_0 N  v0 c) Q) : mG Z qX12_set X k w mc ms Q (0, [(0, .ref v0)], [], (n, c)) := by
  unfold bX12_set_0 at hf
  refine mg_aload_n C rfl rfl ?_
  refine mg_aload_n C rfl rfl ?_
  refine mh_gR C rfl rfl rfl (by decide) hf (fun x1 hf => ?_)
  refine mg_iconst (v := 1) C rfl (by decide) ?_
  refine mh_aI C rfl hf (fun x2 hf => ?_)
  refine mh_pI C rfl rfl rfl (by decide) rfl rfl rfl hf (fun c3 hf => ?_)
  exact mh_return C rfl (by omega) (by omega) rfl hf
def fX12_set (N : Nat) (v0 : Nat) (c : mm_C) : mR Unit := bX12_set_0 N v0 c
set_option maxRecDepth 100000 in
theorem wX12_set {Z : mm_Z} {d n N : Nat} (hd : 1 ≤ d) (hn : n + 1 < 1000000) {v0 : Nat} {c : mm_C} (hs : (fX12_set N v0 c).isSome = true) : mC Z qX12_set d 1 6 [.ref v0] (n, c) (mP 0 ovU n (fX12_set N v0 c)) := by
  refine mC_of gX12_set (by decide +kernel) (Nat.le_of_ble_eq_true rfl) fun X C hRm => ?_
  have hf := hO_mP 0 ovU n hs
  have hk : 0 + 1 ≤ 1 := Nat.le_of_ble_eq_true rfl
  have hw : 0 + 6 ≤ 6 := Nat.le_of_ble_eq_true rfl
  show mG _ _ _ _ _ _ _ _ (0, [(0, .ref v0)], [], (n, c))
  exact wX12_set_0 C hRm hd hn hk hw hf
def bX12_sky_22 (N : Nat)  (v0 : Nat) (c : mm_C) : mR Int32 :=
  cV 12 v0 c (fX12_fail N v0 (1 : Int32) c) fun r1 c2 => some (.inl r1, c2)
set_option maxRecDepth 100000 in
theorem wX12_sky_22 {Z : mm_Z} {X : mm_T} {k w mc ms d n N : Nat} {Q : mm_O → mm_H → Prop} (C : mm_Ok Z qX12_sky X) (hRm : mt_R X = mm_rm d mc ms) (hd : 3 ≤ d) (hn : n + 1 < 1000000) (hk : k + 1 ≤ mc) (hw : w + 6 ≤ ms) {v0 : Nat} {c : mm_C} (hf : hO 0 ovI n (bX12_sky_22 N  v0 c) Q) : mG Z qX12_sky X k w mc ms Q (22, [(0, .ref v0)], [], (n, c)) := by
  unfold bX12_sky_22 at hf
  refine mg_aload_n C rfl rfl ?_
  refine mg_iconst (v := 1) C rfl (by decide) ?_
  refine mh_cVI (M' := qX12_fail) C rfl rfl aX12_fail iX12_fail sX12_fail hRm (by omega) (by decide) (by omega) (by omega) rfl rfl rfl (Nat.le_of_ble_eq_true rfl) rfl hf (fun hs => wX12_fail (by omega) (by omega) hs) (fun r1 c2 hf => ?_)
  exact mh_ireturn C rfl (by omega) (by omega) rfl hf
def bX12_sky_0 (N : Nat)  (v0 : Nat) (v1 : Int32) (v2 : Int32) (c : mm_C) : mR Int32 :=
  Option.bind (pI c v0 12 2 (0 : Int32)) fun c1 => cV 12 v0 c1 (fX12_isMinute N v0 v1 c1) fun r2 c3 => if r2 = 0 then (bX12_sky_22 N  v0 c3) else (if v2 < 0 then (bX12_sky_22 N  v0 c3) else (if v2 ≤ (1 : Int32) then (cV 12 v0 c3 (fX12_set N v0 c3) fun (_ : Unit) c4 => if ¬ v2 = 0 then (cV 12 v0 c4 (fX12_staysFor N v0 v1 c4) fun r5 c6 => some (.inl r5, c6)) else (Option.bind (gR c4 v0 12 10) fun x7 => Option.bind (aI c4 x7 v1) fun x8 => some (.inl x8, c4))) else (bX12_sky_22 N  v0 c3)))
set_option maxRecDepth 100000 in
theorem wX12_sky_0 {Z : mm_Z} {X : mm_T} {k w mc ms d n N : Nat} {Q : mm_O → mm_H → Prop} (C : mm_Ok Z qX12_sky X) (hRm : mt_R X = mm_rm d mc ms) (hd : 3 ≤ d) (hn : n + 1 < 1000000) (hk : k + 1 ≤ mc) (hw : w + 6 ≤ ms) {v0 : Nat} {v1 : Int32} {v2 : Int32} {c : mm_C} (hf : hO 0 ovI n (bX12_sky_0 N  v0 v1 v2 c) Q) : mG Z qX12_sky X k w mc ms Q (0, [(0, .ref v0), (1, .int v1), (2, .int v2)], [], (n, c)) := by
  unfold bX12_sky_0 at hf
  refine mg_aload_n C rfl rfl ?_
  refine mg_iconst (v := 0) C rfl (by decide) ?_
  refine mh_pI C rfl rfl rfl (by decide) rfl rfl rfl hf (fun c1 hf => ?_)
  refine mg_aload_n C rfl rfl ?_
  refine mg_iload_n C rfl rfl ?_
  refine mh_cVI (M' := qX12_isMinute) C rfl rfl aX12_isMinute iX12_isMinute sX12_isMinute hRm (by omega) (by decide) (by omega) (by omega) rfl rfl rfl (Nat.le_of_ble_eq_true rfl) rfl hf (fun hs => wX12_isMinute (by omega) (by omega) hs) (fun r2 c3 hf => ?_)
  refine mh_if_eq C rfl hf (fun e_10 hf => ?_) (fun e_10 hf => ?_)
  · refine mg_sub (lv' := [(0, .ref v0)]) (by simp) ?_
    exact wX12_sky_22 C hRm hd hn hk hw hf
  · refine mg_iload_n C rfl rfl ?_
    refine mh_if_lt C rfl hf (fun e_14 hf => ?_) (fun e_14 hf => ?_)
    · refine mg_sub (lv' := [(0, .ref v0)]) (by simp) ?_
      exact wX12_sky_22 C hRm hd hn hk hw hf
    · refine mg_iload_n C rfl rfl ?_
      refine mg_iconst (v := 1) C rfl (by decide) ?_
      refine mh_icmp_le C rfl hf (fun e_19 hf => ?_) (fun e_19 hf => ?_)
      · refine mg_aload_n C rfl rfl ?_
        refine mh_cVU (M' := qX12_set) C rfl rfl aX12_set iX12_set sX12_set hRm (by omega) (by decide) (by omega) (by omega) rfl rfl rfl (Nat.le_of_ble_eq_true rfl) rfl hf (fun hs => wX12_set (by omega) (by omega) hs) (fun c4 hf => ?_)
        refine mg_iload_n C rfl rfl ?_
        refine mh_if_ne C rfl hf (fun e_33 hf => ?_) (fun e_33 hf => ?_)
        · refine mg_aload_n C rfl rfl ?_
          refine mg_iload_n C rfl rfl ?_
          refine mh_cVI (M' := qX12_staysFor) C rfl rfl aX12_staysFor iX12_staysFor sX12_staysFor hRm (by omega) (by decide) (by omega) (by omega) rfl rfl rfl (Nat.le_of_ble_eq_true rfl) rfl hf (fun hs => wX12_staysFor (by omega) (by omega) hs) (fun r5 c6 hf => ?_)
          exact mh_ireturn C rfl (by omega) (by omega) rfl hf
        · refine mg_aload_n C rfl rfl ?_
          refine mh_gR C rfl rfl rfl (by decide) hf (fun x7 hf => ?_)
          refine mg_iload_n C rfl rfl ?_
          refine mh_aI C rfl hf (fun x8 hf => ?_)
          refine mg_goto C rfl ?_
          exact mh_ireturn C rfl (by omega) (by omega) rfl hf
      · refine mg_sub (lv' := [(0, .ref v0)]) (by simp) ?_
        exact wX12_sky_22 C hRm hd hn hk hw hf
def fX12_sky (N : Nat) (v0 : Nat) (v1 : Int32) (v2 : Int32) (c : mm_C) : mR Int32 := bX12_sky_0 N v0 v1 v2 c
set_option maxRecDepth 100000 in
theorem wX12_sky {Z : mm_Z} {d n N : Nat} (hd : 3 ≤ d) (hn : n + 1 < 1000000) {v0 : Nat} {v1 : Int32} {v2 : Int32} {c : mm_C} (hs : (fX12_sky N v0 v1 v2 c).isSome = true) : mC Z qX12_sky d 1 6 [.ref v0, .int v1, .int v2] (n, c) (mP 0 ovI n (fX12_sky N v0 v1 v2 c)) := by
  refine mC_of gX12_sky (by decide +kernel) (Nat.le_of_ble_eq_true rfl) fun X C hRm => ?_
  have hf := hO_mP 0 ovI n hs
  have hk : 0 + 1 ≤ 1 := Nat.le_of_ble_eq_true rfl
  have hw : 0 + 6 ≤ 6 := Nat.le_of_ble_eq_true rfl
  show mG _ _ _ _ _ _ _ _ (0, [(0, .ref v0), (1, .int v1), (2, .int v2)], [], (n, c))
  exact wX12_sky_0 C hRm hd hn hk hw hf
def bX12_why_21 (N : Nat)  (v0 : Nat) (c : mm_C) : mR Int32 :=
  cV 12 v0 c (fX12_fail N v0 (1 : Int32) c) fun r1 c2 => some (.inl r1, c2)
set_option maxRecDepth 100000 in
theorem wX12_why_21 {Z : mm_Z} {X : mm_T} {k w mc ms d n N : Nat} {Q : mm_O → mm_H → Prop} (C : mm_Ok Z qX12_why X) (hRm : mt_R X = mm_rm d mc ms) (hd : 4 ≤ d) (hn : n + 1 < 1000000) (hk : k + 1 ≤ mc) (hw : w + 6 ≤ ms) {v0 : Nat} {c : mm_C} (hf : hO 0 ovI n (bX12_why_21 N  v0 c) Q) : mG Z qX12_why X k w mc ms Q (21, [(0, .ref v0)], [], (n, c)) := by
  unfold bX12_why_21 at hf
  refine mg_aload_n C rfl rfl ?_
  refine mg_iconst (v := 1) C rfl (by decide) ?_
  refine mh_cVI (M' := qX12_fail) C rfl rfl aX12_fail iX12_fail sX12_fail hRm (by omega) (by decide) (by omega) (by omega) rfl rfl rfl (Nat.le_of_ble_eq_true rfl) rfl hf (fun hs => wX12_fail (by omega) (by omega) hs) (fun r1 c2 hf => ?_)
  exact mh_ireturn C rfl (by omega) (by omega) rfl hf
def bX12_why_0 (N : Nat)  (v0 : Nat) (v1 : Int32) (v2 : Int32) (c : mm_C) : mR Int32 :=
  Option.bind (pI c v0 12 2 (0 : Int32)) fun c1 => cV 12 v0 c1 (fX12_isShot N v0 v1 c1) fun r2 c3 => if r2 = 0 then (bX12_why_21 N  v0 c3) else (cV 12 v0 c3 (fX12_isMinute N v0 v2 c3) fun r4 c5 => if ¬ r4 = 0 then (cV 12 v0 c5 (fX12_set N v0 c5) fun (_ : Unit) c6 => cV 12 v0 c6 (fX12_whyNow N v0 v1 v2 c6) fun r7 c8 => some (.inl r7, c8)) else (bX12_why_21 N  v0 c5))
set_option maxRecDepth 100000 in
theorem wX12_why_0 {Z : mm_Z} {X : mm_T} {k w mc ms d n N : Nat} {Q : mm_O → mm_H → Prop} (C : mm_Ok Z qX12_why X) (hRm : mt_R X = mm_rm d mc ms) (hd : 4 ≤ d) (hn : n + 1 < 1000000) (hk : k + 1 ≤ mc) (hw : w + 6 ≤ ms) {v0 : Nat} {v1 : Int32} {v2 : Int32} {c : mm_C} (hf : hO 0 ovI n (bX12_why_0 N  v0 v1 v2 c) Q) : mG Z qX12_why X k w mc ms Q (0, [(0, .ref v0), (1, .int v1), (2, .int v2)], [], (n, c)) := by
  unfold bX12_why_0 at hf
  refine mg_aload_n C rfl rfl ?_
  refine mg_iconst (v := 0) C rfl (by decide) ?_
  refine mh_pI C rfl rfl rfl (by decide) rfl rfl rfl hf (fun c1 hf => ?_)
  refine mg_aload_n C rfl rfl ?_
  refine mg_iload_n C rfl rfl ?_
  refine mh_cVI (M' := qX12_isShot) C rfl rfl aX12_isShot iX12_isShot sX12_isShot hRm (by omega) (by decide) (by omega) (by omega) rfl rfl rfl (Nat.le_of_ble_eq_true rfl) rfl hf (fun hs => wX12_isShot (by omega) (by omega) hs) (fun r2 c3 hf => ?_)
  refine mh_if_eq C rfl hf (fun e_10 hf => ?_) (fun e_10 hf => ?_)
  · refine mg_sub (lv' := [(0, .ref v0)]) (by simp) ?_
    exact wX12_why_21 C hRm hd hn hk hw hf
  · refine mg_aload_n C rfl rfl ?_
    refine mg_iload_n C rfl rfl ?_
    refine mh_cVI (M' := qX12_isMinute) C rfl rfl aX12_isMinute iX12_isMinute sX12_isMinute hRm (by omega) (by decide) (by omega) (by omega) rfl rfl rfl (Nat.le_of_ble_eq_true rfl) rfl hf (fun hs => wX12_isMinute (by omega) (by omega) hs) (fun r4 c5 hf => ?_)
    refine mh_if_ne C rfl hf (fun e_18 hf => ?_) (fun e_18 hf => ?_)
    · refine mg_aload_n C rfl rfl ?_
      refine mh_cVU (M' := qX12_set) C rfl rfl aX12_set iX12_set sX12_set hRm (by omega) (by decide) (by omega) (by omega) rfl rfl rfl (Nat.le_of_ble_eq_true rfl) rfl hf (fun hs => wX12_set (by omega) (by omega) hs) (fun c6 hf => ?_)
      refine mg_aload_n C rfl rfl ?_
      refine mg_iload_n C rfl rfl ?_
      refine mg_iload_n C rfl rfl ?_
      refine mh_cVI (M' := qX12_whyNow) C rfl rfl aX12_whyNow iX12_whyNow sX12_whyNow hRm (by omega) (by decide) (by omega) (by omega) rfl rfl rfl (Nat.le_of_ble_eq_true rfl) rfl hf (fun hs => wX12_whyNow (by omega) (by omega) hs) (fun r7 c8 hf => ?_)
      exact mh_ireturn C rfl (by omega) (by omega) rfl hf
    · refine mg_sub (lv' := [(0, .ref v0)]) (by simp) ?_
      exact wX12_why_21 C hRm hd hn hk hw hf
def fX12_why (N : Nat) (v0 : Nat) (v1 : Int32) (v2 : Int32) (c : mm_C) : mR Int32 := bX12_why_0 N v0 v1 v2 c
set_option maxRecDepth 100000 in
theorem wX12_why {Z : mm_Z} {d n N : Nat} (hd : 4 ≤ d) (hn : n + 1 < 1000000) {v0 : Nat} {v1 : Int32} {v2 : Int32} {c : mm_C} (hs : (fX12_why N v0 v1 v2 c).isSome = true) : mC Z qX12_why d 1 6 [.ref v0, .int v1, .int v2] (n, c) (mP 0 ovI n (fX12_why N v0 v1 v2 c)) := by
  refine mC_of gX12_why (by decide +kernel) (Nat.le_of_ble_eq_true rfl) fun X C hRm => ?_
  have hf := hO_mP 0 ovI n hs
  have hk : 0 + 1 ≤ 1 := Nat.le_of_ble_eq_true rfl
  have hw : 0 + 6 ≤ 6 := Nat.le_of_ble_eq_true rfl
  show mG _ _ _ _ _ _ _ _ (0, [(0, .ref v0), (1, .int v1), (2, .int v2)], [], (n, c))
  exact wX12_why_0 C hRm hd hn hk hw hf
def bX12_ready_62 (N : Nat)  (v2 : Int32) (c : mm_C) : mR Int32 :=
  some (.inl v2, c)
set_option maxRecDepth 100000 in
theorem wX12_ready_62 {Z : mm_Z} {X : mm_T} {k w mc ms d n N : Nat} {Q : mm_O → mm_H → Prop} (C : mm_Ok Z qX12_ready X) (hRm : mt_R X = mm_rm d mc ms) (hd : 4 ≤ d) (hn : n + 1 < 1000000) (hk : k + 1 ≤ mc) (hw : w + 6 ≤ ms) {v2 : Int32} {c : mm_C} (hf : hO 0 ovI n (bX12_ready_62 N  v2 c) Q) : mG Z qX12_ready X k w mc ms Q (62, [(2, .int v2)], [], (n, c)) := by
  unfold bX12_ready_62 at hf
  refine mg_iload_n C rfl rfl ?_
  exact mh_ireturn C rfl (by omega) (by omega) rfl hf
def bX12_ready_54 (N : Nat)  (k27 : Nat → Int32 → Int32 → Int32 → mm_C → mR Int32) (v0 : Nat) (v1 : Int32) (v3 : Int32) (s0 : Int32) (s1 : Int32) (c : mm_C) : mR Int32 :=
  k27 v0 v1 (s0 ||| s1) (v3 + 1) c
set_option maxRecDepth 100000 in
theorem wX12_ready_54 {Z : mm_Z} {X : mm_T} {k w mc ms d n N : Nat} {Q : mm_O → mm_H → Prop} (C : mm_Ok Z qX12_ready X) (hRm : mt_R X = mm_rm d mc ms) (hd : 4 ≤ d) (hn : n + 1 < 1000000) (hk : k + 1 ≤ mc) (hw : w + 6 ≤ ms) {k27 : Nat → Int32 → Int32 → Int32 → mm_C → mR Int32} (hk27 : ∀ (v0 : Nat) (v1 : Int32) (v2 : Int32) (v3 : Int32) (c : mm_C), hO 0 ovI n (k27 v0 v1 v2 v3 c) Q → mG Z qX12_ready X k w mc ms Q (27, [(0, .ref v0), (1, .int v1), (2, .int v2), (3, .int v3)], [], (n, c))) {v0 : Nat} {v1 : Int32} {v3 : Int32} {s0 : Int32} {s1 : Int32} {c : mm_C} (hf : hO 0 ovI n (bX12_ready_54 N  k27 v0 v1 v3 s0 s1 c) Q) : mG Z qX12_ready X k w mc ms Q (54, [(0, .ref v0), (1, .int v1), (3, .int v3)], [.int s1, .int s0], (n, c)) := by
  unfold bX12_ready_54 at hf
  refine mg_ior C rfl ?_
  refine mg_istore_n (lv' := [(0, .ref v0), (1, .int v1), (2, .int (s0 ||| s1)), (3, .int v3)]) C rfl (Nat.le_of_ble_eq_true rfl) rfl ?_
  refine mg_iinc (lv' := [(0, .ref v0), (1, .int v1), (2, .int (s0 ||| s1)), (3, .int (v3 + 1))]) C rfl (Nat.le_of_ble_eq_true rfl) rfl (show _ + Int32.ofInt 1 = _ + 1 by congr 1) rfl ?_
  refine mg_goto C rfl ?_
  exact hk27 _ _ _ _ _ hf
def bX12_ready_27 (N : Nat)  (k27 : Nat → Int32 → Int32 → Int32 → mm_C → mR Int32) (v0 : Nat) (v1 : Int32) (v2 : Int32) (v3 : Int32) (c : mm_C) : mR Int32 :=
  Option.bind (gR c v0 12 3) fun x1 => Option.bind (aI c x1 (0 : Int32)) fun x2 => if x2 ≤ v3 then (bX12_ready_62 N  v2 c) else (cV 12 v0 c (fX12_whyNow N v0 v3 v1 c) fun r3 c4 => if ¬ r3 = 0 then (bX12_ready_54 N  k27 v0 v1 v3 v2 (0 : Int32) c4) else (bX12_ready_54 N  k27 v0 v1 v3 v2 ((1 : Int32) <<< (v3 &&& 31)) c4))
set_option maxRecDepth 100000 in
theorem wX12_ready_27 {Z : mm_Z} {X : mm_T} {k w mc ms d n N : Nat} {Q : mm_O → mm_H → Prop} (C : mm_Ok Z qX12_ready X) (hRm : mt_R X = mm_rm d mc ms) (hd : 4 ≤ d) (hn : n + 1 < 1000000) (hk : k + 1 ≤ mc) (hw : w + 6 ≤ ms) {k27 : Nat → Int32 → Int32 → Int32 → mm_C → mR Int32} (hk27 : ∀ (v0 : Nat) (v1 : Int32) (v2 : Int32) (v3 : Int32) (c : mm_C), hO 0 ovI n (k27 v0 v1 v2 v3 c) Q → mG Z qX12_ready X k w mc ms Q (27, [(0, .ref v0), (1, .int v1), (2, .int v2), (3, .int v3)], [], (n, c))) {v0 : Nat} {v1 : Int32} {v2 : Int32} {v3 : Int32} {c : mm_C} (hf : hO 0 ovI n (bX12_ready_27 N  k27 v0 v1 v2 v3 c) Q) : mG Z qX12_ready X k w mc ms Q (27, [(0, .ref v0), (1, .int v1), (2, .int v2), (3, .int v3)], [], (n, c)) := by
  unfold bX12_ready_27 at hf
  refine mg_iload_n C rfl rfl ?_
  refine mg_aload_n C rfl rfl ?_
  refine mh_gR C rfl rfl rfl (by decide) hf (fun x1 hf => ?_)
  refine mg_iconst (v := 0) C rfl (by decide) ?_
  refine mh_aI C rfl hf (fun x2 hf => ?_)
  refine mh_icmp_ge C rfl hf (fun e_34 hf => ?_) (fun e_34 hf => ?_)
  · refine mg_sub (lv' := [(2, .int v2)]) (by simp) ?_
    exact wX12_ready_62 C hRm hd hn hk hw hf
  · refine mg_iload_n C rfl rfl ?_
    refine mg_aload_n C rfl rfl ?_
    refine mg_iload_n C rfl rfl ?_
    refine mg_iload_n C rfl rfl ?_
    refine mh_cVI (M' := qX12_whyNow) C rfl rfl aX12_whyNow iX12_whyNow sX12_whyNow hRm (by omega) (by decide) (by omega) (by omega) rfl rfl rfl (Nat.le_of_ble_eq_true rfl) rfl hf (fun hs => wX12_whyNow (by omega) (by omega) hs) (fun r3 c4 hf => ?_)
    refine mh_if_ne C rfl hf (fun e_44 hf => ?_) (fun e_44 hf => ?_)
    · refine mg_iconst (v := 0) C rfl (by decide) ?_
      refine mg_sub (lv' := [(0, .ref v0), (1, .int v1), (3, .int v3)]) (by simp) ?_
      exact wX12_ready_54 C hRm hd hn hk hw hk27 hf
    · refine mg_iconst (v := 1) C rfl (by decide) ?_
      refine mg_iload_n C rfl rfl ?_
      refine mg_ishl C rfl ?_
      refine mg_goto C rfl ?_
      refine mg_sub (lv' := [(0, .ref v0), (1, .int v1), (3, .int v3)]) (by simp) ?_
      exact wX12_ready_54 C hRm hd hn hk hw hk27 hf
def lX12_ready_27 (N : Nat)  : Nat → Nat → Int32 → Int32 → Int32 → mm_C → mR Int32
  | 0, _, _, _, _, _ => none
  | m + 1, v0, v1, v2, v3, c => bX12_ready_27 N  (lX12_ready_27 N  m) v0 v1 v2 v3 c
theorem WX12_ready_27 {Z : mm_Z} {X : mm_T} {k w mc ms d n N : Nat} {Q : mm_O → mm_H → Prop} (C : mm_Ok Z qX12_ready X) (hRm : mt_R X = mm_rm d mc ms) (hd : 4 ≤ d) (hn : n + 1 < 1000000) (hk : k + 1 ≤ mc) (hw : w + 6 ≤ ms) : ∀ (m : Nat) {v0 : Nat} {v1 : Int32} {v2 : Int32} {v3 : Int32} {c : mm_C} (hf : hO 0 ovI n (lX12_ready_27 N  m v0 v1 v2 v3 c) Q), mG Z qX12_ready X k w mc ms Q (27, [(0, .ref v0), (1, .int v1), (2, .int v2), (3, .int v3)], [], (n, c)) := by
  intro m
  induction m with
  | zero => intro v0 v1 v2 v3 c hf; exact absurd hf hO_none
  | succ m ih => intro v0 v1 v2 v3 c hf; exact wX12_ready_27 C hRm hd hn hk hw (fun v0 v1 v2 v3 c hf => ih hf) hf
def bX12_ready_0 (N : Nat)  (v0 : Nat) (v1 : Int32) (c : mm_C) : mR Int32 :=
  Option.bind (pI c v0 12 2 (0 : Int32)) fun c1 => cV 12 v0 c1 (fX12_isMinute N v0 v1 c1) fun r2 c3 => if ¬ r2 = 0 then (cV 12 v0 c3 (fX12_set N v0 c3) fun (_ : Unit) c4 => lX12_ready_27 N  N v0 v1 (0 : Int32) (0 : Int32) c4) else (cV 12 v0 c3 (fX12_fail N v0 (1 : Int32) c3) fun r5 c6 => some (.inl r5, c6))
set_option maxRecDepth 100000 in
theorem wX12_ready_0 {Z : mm_Z} {X : mm_T} {k w mc ms d n N : Nat} {Q : mm_O → mm_H → Prop} (C : mm_Ok Z qX12_ready X) (hRm : mt_R X = mm_rm d mc ms) (hd : 4 ≤ d) (hn : n + 1 < 1000000) (hk : k + 1 ≤ mc) (hw : w + 6 ≤ ms) {v0 : Nat} {v1 : Int32} {c : mm_C} (hf : hO 0 ovI n (bX12_ready_0 N  v0 v1 c) Q) : mG Z qX12_ready X k w mc ms Q (0, [(0, .ref v0), (1, .int v1)], [], (n, c)) := by
  unfold bX12_ready_0 at hf
  refine mg_aload_n C rfl rfl ?_
  refine mg_iconst (v := 0) C rfl (by decide) ?_
  refine mh_pI C rfl rfl rfl (by decide) rfl rfl rfl hf (fun c1 hf => ?_)
  refine mg_aload_n C rfl rfl ?_
  refine mg_iload_n C rfl rfl ?_
  refine mh_cVI (M' := qX12_isMinute) C rfl rfl aX12_isMinute iX12_isMinute sX12_isMinute hRm (by omega) (by decide) (by omega) (by omega) rfl rfl rfl (Nat.le_of_ble_eq_true rfl) rfl hf (fun hs => wX12_isMinute (by omega) (by omega) hs) (fun r2 c3 hf => ?_)
  refine mh_if_ne C rfl hf (fun e_10 hf => ?_) (fun e_10 hf => ?_)
  · refine mg_aload_n C rfl rfl ?_
    refine mh_cVU (M' := qX12_set) C rfl rfl aX12_set iX12_set sX12_set hRm (by omega) (by decide) (by omega) (by omega) rfl rfl rfl (Nat.le_of_ble_eq_true rfl) rfl hf (fun hs => wX12_set (by omega) (by omega) hs) (fun c4 hf => ?_)
    refine mg_iconst (v := 0) C rfl (by decide) ?_
    refine mg_istore_n (lv' := [(0, .ref v0), (1, .int v1), (2, .int (0 : Int32))]) C rfl (Nat.le_of_ble_eq_true rfl) rfl ?_
    refine mg_iconst (v := 0) C rfl (by decide) ?_
    refine mg_istore_n (lv' := [(0, .ref v0), (1, .int v1), (2, .int (0 : Int32)), (3, .int (0 : Int32))]) C rfl (Nat.le_of_ble_eq_true rfl) rfl ?_
    exact WX12_ready_27 C hRm hd hn hk hw N hf
  · refine mg_aload_n C rfl rfl ?_
    refine mg_iconst (v := 1) C rfl (by decide) ?_
    refine mh_cVI (M' := qX12_fail) C rfl rfl aX12_fail iX12_fail sX12_fail hRm (by omega) (by decide) (by omega) (by omega) rfl rfl rfl (Nat.le_of_ble_eq_true rfl) rfl hf (fun hs => wX12_fail (by omega) (by omega) hs) (fun r5 c6 hf => ?_)
    exact mh_ireturn C rfl (by omega) (by omega) rfl hf
def fX12_ready (N : Nat) (v0 : Nat) (v1 : Int32) (c : mm_C) : mR Int32 := bX12_ready_0 N v0 v1 c
set_option maxRecDepth 100000 in
theorem wX12_ready {Z : mm_Z} {d n N : Nat} (hd : 4 ≤ d) (hn : n + 1 < 1000000) {v0 : Nat} {v1 : Int32} {c : mm_C} (hs : (fX12_ready N v0 v1 c).isSome = true) : mC Z qX12_ready d 1 6 [.ref v0, .int v1] (n, c) (mP 0 ovI n (fX12_ready N v0 v1 c)) := by
  refine mC_of gX12_ready (by decide +kernel) (Nat.le_of_ble_eq_true rfl) fun X C hRm => ?_
  have hf := hO_mP 0 ovI n hs
  have hk : 0 + 1 ≤ 1 := Nat.le_of_ble_eq_true rfl
  have hw : 0 + 6 ≤ 6 := Nat.le_of_ble_eq_true rfl
  show mG _ _ _ _ _ _ _ _ (0, [(0, .ref v0), (1, .int v1)], [], (n, c))
  exact wX12_ready_0 C hRm hd hn hk hw hf
def bX12_edge_0 (N : Nat)  (v0 : Nat) (v1 : Int32) (c : mm_C) : mR Int32 :=
  Option.bind (pI c v0 12 2 (0 : Int32)) fun c1 => cV 12 v0 c1 (fX12_isMinute N v0 v1 c1) fun r2 c3 => if ¬ r2 = 0 then (cV 12 v0 c3 (fX12_set N v0 c3) fun (_ : Unit) c4 => cV 12 v0 c4 (fX12_staysFor N v0 v1 c4) fun r5 c6 => Option.bind (gR c6 v0 12 3) fun x7 => Option.bind (aI c6 x7 (1 : Int32)) fun x8 => if x8 ≤ (v1 + r5) then (some (.inl (-1 : Int32), c6)) else (some (.inl (v1 + r5), c6))) else (cV 12 v0 c3 (fX12_fail N v0 (1 : Int32) c3) fun r9 c10 => some (.inl r9, c10))
set_option maxRecDepth 100000 in
theorem wX12_edge_0 {Z : mm_Z} {X : mm_T} {k w mc ms d n N : Nat} {Q : mm_O → mm_H → Prop} (C : mm_Ok Z qX12_edge X) (hRm : mt_R X = mm_rm d mc ms) (hd : 3 ≤ d) (hn : n + 1 < 1000000) (hk : k + 1 ≤ mc) (hw : w + 6 ≤ ms) {v0 : Nat} {v1 : Int32} {c : mm_C} (hf : hO 0 ovI n (bX12_edge_0 N  v0 v1 c) Q) : mG Z qX12_edge X k w mc ms Q (0, [(0, .ref v0), (1, .int v1)], [], (n, c)) := by
  unfold bX12_edge_0 at hf
  refine mg_aload_n C rfl rfl ?_
  refine mg_iconst (v := 0) C rfl (by decide) ?_
  refine mh_pI C rfl rfl rfl (by decide) rfl rfl rfl hf (fun c1 hf => ?_)
  refine mg_aload_n C rfl rfl ?_
  refine mg_iload_n C rfl rfl ?_
  refine mh_cVI (M' := qX12_isMinute) C rfl rfl aX12_isMinute iX12_isMinute sX12_isMinute hRm (by omega) (by decide) (by omega) (by omega) rfl rfl rfl (Nat.le_of_ble_eq_true rfl) rfl hf (fun hs => wX12_isMinute (by omega) (by omega) hs) (fun r2 c3 hf => ?_)
  refine mh_if_ne C rfl hf (fun e_10 hf => ?_) (fun e_10 hf => ?_)
  · refine mg_aload_n C rfl rfl ?_
    refine mh_cVU (M' := qX12_set) C rfl rfl aX12_set iX12_set sX12_set hRm (by omega) (by decide) (by omega) (by omega) rfl rfl rfl (Nat.le_of_ble_eq_true rfl) rfl hf (fun hs => wX12_set (by omega) (by omega) hs) (fun c4 hf => ?_)
    refine mg_iload_n C rfl rfl ?_
    refine mg_aload_n C rfl rfl ?_
    refine mg_iload_n C rfl rfl ?_
    refine mh_cVI (M' := qX12_staysFor) C rfl rfl aX12_staysFor iX12_staysFor sX12_staysFor hRm (by omega) (by decide) (by omega) (by omega) rfl rfl rfl (Nat.le_of_ble_eq_true rfl) rfl hf (fun hs => wX12_staysFor (by omega) (by omega) hs) (fun r5 c6 hf => ?_)
    refine mg_iadd C rfl ?_
    refine mg_istore_n (lv' := [(0, .ref v0), (1, .int v1), (2, .int (v1 + r5))]) C rfl (Nat.le_of_ble_eq_true rfl) rfl ?_
    refine mg_iload_n C rfl rfl ?_
    refine mg_aload_n C rfl rfl ?_
    refine mh_gR C rfl rfl rfl (by decide) hf (fun x7 hf => ?_)
    refine mg_iconst (v := 1) C rfl (by decide) ?_
    refine mh_aI C rfl hf (fun x8 hf => ?_)
    refine mh_icmp_ge C rfl hf (fun e_38 hf => ?_) (fun e_38 hf => ?_)
    · refine mg_iconst (v := (-1)) C rfl (by decide) ?_
      exact mh_ireturn C rfl (by omega) (by omega) rfl hf
    · refine mg_iload_n C rfl rfl ?_
      refine mg_goto C rfl ?_
      exact mh_ireturn C rfl (by omega) (by omega) rfl hf
  · refine mg_aload_n C rfl rfl ?_
    refine mg_iconst (v := 1) C rfl (by decide) ?_
    refine mh_cVI (M' := qX12_fail) C rfl rfl aX12_fail iX12_fail sX12_fail hRm (by omega) (by decide) (by omega) (by omega) rfl rfl rfl (Nat.le_of_ble_eq_true rfl) rfl hf (fun hs => wX12_fail (by omega) (by omega) hs) (fun r9 c10 hf => ?_)
    exact mh_ireturn C rfl (by omega) (by omega) rfl hf
def fX12_edge (N : Nat) (v0 : Nat) (v1 : Int32) (c : mm_C) : mR Int32 := bX12_edge_0 N v0 v1 c
set_option maxRecDepth 100000 in
theorem wX12_edge {Z : mm_Z} {d n N : Nat} (hd : 3 ≤ d) (hn : n + 1 < 1000000) {v0 : Nat} {v1 : Int32} {c : mm_C} (hs : (fX12_edge N v0 v1 c).isSome = true) : mC Z qX12_edge d 1 6 [.ref v0, .int v1] (n, c) (mP 0 ovI n (fX12_edge N v0 v1 c)) := by
  refine mC_of gX12_edge (by decide +kernel) (Nat.le_of_ble_eq_true rfl) fun X C hRm => ?_
  have hf := hO_mP 0 ovI n hs
  have hk : 0 + 1 ≤ 1 := Nat.le_of_ble_eq_true rfl
  have hw : 0 + 6 ≤ 6 := Nat.le_of_ble_eq_true rfl
  show mG _ _ _ _ _ _ _ _ (0, [(0, .ref v0), (1, .int v1)], [], (n, c))
  exact wX12_edge_0 C hRm hd hn hk hw hf
def bX12_refuse_0 (N : Nat)  (v0 : Nat) (v1 : Int32) (c : mm_C) : mR Int32 :=
  Option.bind (gR c v0 12 14) fun x1 => Option.bind (aI c x1 v1) fun x2 => Option.bind (tI c x1 v1 (x2 + (1 : Int32))) fun c3 => some (.inl (-1 : Int32), c3)
set_option maxRecDepth 100000 in
theorem wX12_refuse_0 {Z : mm_Z} {X : mm_T} {k w mc ms d n N : Nat} {Q : mm_O → mm_H → Prop} (C : mm_Ok Z qX12_refuse X) (hRm : mt_R X = mm_rm d mc ms) (hd : 1 ≤ d) (hn : n + 1 < 1000000) (hk : k + 1 ≤ mc) (hw : w + 6 ≤ ms) {v0 : Nat} {v1 : Int32} {c : mm_C} (hf : hO 0 ovI n (bX12_refuse_0 N  v0 v1 c) Q) : mG Z qX12_refuse X k w mc ms Q (0, [(0, .ref v0), (1, .int v1)], [], (n, c)) := by
  unfold bX12_refuse_0 at hf
  refine mg_aload_n C rfl rfl ?_
  refine mh_gR C rfl rfl rfl (by decide) hf (fun x1 hf => ?_)
  refine mg_iload_n C rfl rfl ?_
  refine mg_dup2 C rfl rfl rfl ?_
  refine mh_aI C rfl hf (fun x2 hf => ?_)
  refine mg_iconst (v := 1) C rfl (by decide) ?_
  refine mg_iadd C rfl ?_
  refine mh_tI C rfl hf (fun c3 hf => ?_)
  refine mg_iconst (v := (-1)) C rfl (by decide) ?_
  exact mh_ireturn C rfl (by omega) (by omega) rfl hf
def fX12_refuse (N : Nat) (v0 : Nat) (v1 : Int32) (c : mm_C) : mR Int32 := bX12_refuse_0 N v0 v1 c
set_option maxRecDepth 100000 in
theorem wX12_refuse {Z : mm_Z} {d n N : Nat} (hd : 1 ≤ d) (hn : n + 1 < 1000000) {v0 : Nat} {v1 : Int32} {c : mm_C} (hs : (fX12_refuse N v0 v1 c).isSome = true) : mC Z qX12_refuse d 1 6 [.ref v0, .int v1] (n, c) (mP 0 ovI n (fX12_refuse N v0 v1 c)) := by
  refine mC_of gX12_refuse (by decide +kernel) (Nat.le_of_ble_eq_true rfl) fun X C hRm => ?_
  have hf := hO_mP 0 ovI n hs
  have hk : 0 + 1 ≤ 1 := Nat.le_of_ble_eq_true rfl
  have hw : 0 + 6 ≤ 6 := Nat.le_of_ble_eq_true rfl
  show mG _ _ _ _ _ _ _ _ (0, [(0, .ref v0), (1, .int v1)], [], (n, c))
  exact wX12_refuse_0 C hRm hd hn hk hw hf
