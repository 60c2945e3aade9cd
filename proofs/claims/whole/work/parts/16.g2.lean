/- needs: 15.acall 15.fun 16.b10 16.d3 -/
def hE_X2_readsExpr (Z : mm_Z) (dE : Nat) (eE : Nat → Int32 → mm_C → mR Unit) : Prop := ∀ d, dE ≤ d → ∀ n, n + 1 < 1000000 → ∀ (v0 : Nat) (v1 : Int32) (c : mm_C), (eE v0 v1 c).isSome = true → mC Z qX2_readsExpr d 1 6 [.ref v0, .int v1] (n, c) (mP 0 ovU n (eE v0 v1 c))
def bX2_refuses_0 (N : Nat)  (v0 : Nat) (v1 : Int32) (c : mm_C) : mR Unit :=
  Option.bind (pI c v0 2 1 v1) fun c1 => Option.bind (gR c1 v0 2 2) fun x2 => Option.bind (gI c1 x2 10 1) fun x3 => Option.bind (pI c1 v0 2 0 x3) fun c4 => some (.inr 0, c4)
set_option maxRecDepth 100000 in
theorem wX2_refuses_0 {Z : mm_Z} {X : mm_T} {k w mc ms d n N : Nat} {Q : mm_O → mm_H → Prop} (C : mm_Ok Z qX2_refuses X) (hRm : mt_R X = mm_rm d mc ms) (hd : 7 ≤ d) (hn : n + 1 < 1000000) (hk : k + 1 ≤ mc) (hw : w + 6 ≤ ms) {v0 : Nat} {v1 : Int32} {c : mm_C} (hf : hO 0 ovU n (bX2_refuses_0 N  v0 v1 c) Q) : mG Z qX2_refuses X k w mc ms Q (0, [(0, .ref v0), (1, .int v1)], [], (n, c)) := by
  unfold bX2_refuses_0 at hf
  refine mg_aload_n C rfl rfl ?_
  refine mg_iload_n C rfl rfl ?_
  refine mh_pI C rfl rfl rfl (by decide) rfl rfl rfl hf (fun c1 hf => ?_)
  refine mg_aload_n C rfl rfl ?_
  refine mg_aload_n C rfl rfl ?_
  refine mh_gR C rfl rfl rfl (by decide) hf (fun x2 hf => ?_)
  refine mh_gI C rfl rfl rfl (by decide) hf (fun x3 hf => ?_)
  refine mh_pI C rfl rfl rfl (by decide) rfl rfl rfl hf (fun c4 hf => ?_)
  exact mh_throw0 C rfl rfl rfl (Or.inl rfl) rfl rfl (by decide) hRm (by omega) (by omega) (by omega) (Nat.le_of_ble_eq_true rfl) rfl (by omega) hf
def fX2_refuses (N : Nat) (v0 : Nat) (v1 : Int32) (c : mm_C) : mR Unit := bX2_refuses_0 N v0 v1 c
set_option maxRecDepth 100000 in
theorem wX2_refuses {Z : mm_Z} {d n N : Nat} (hd : 7 ≤ d) (hn : n + 1 < 1000000) {v0 : Nat} {v1 : Int32} {c : mm_C} (hs : (fX2_refuses N v0 v1 c).isSome = true) : mC Z qX2_refuses d 1 6 [.ref v0, .int v1] (n, c) (mP 0 ovU n (fX2_refuses N v0 v1 c)) := by
  refine mC_of gX2_refuses (by decide +kernel) (Nat.le_of_ble_eq_true rfl) fun X C hRm => ?_
  have hf := hO_mP 0 ovU n hs
  have hk : 0 + 1 ≤ 1 := Nat.le_of_ble_eq_true rfl
  have hw : 0 + 6 ≤ 6 := Nat.le_of_ble_eq_true rfl
  show mG _ _ _ _ _ _ _ _ (0, [(0, .ref v0), (1, .int v1)], [], (n, c))
  exact wX2_refuses_0 C hRm hd hn hk hw hf
def bX2_lookAtNumber_31 (N : Nat)  (v0 : Nat) (c : mm_C) : mR Int32 :=
  Option.bind (gR c v0 2 2) fun x1 => cV 10 x1 c (fX10_number N x1 c) fun r2 c3 => some (.inl r2, c3)
set_option maxRecDepth 100000 in
theorem wX2_lookAtNumber_31 {Z : mm_Z} {X : mm_T} {k w mc ms d n N : Nat} {Q : mm_O → mm_H → Prop} (C : mm_Ok Z qX2_lookAtNumber X) (hRm : mt_R X = mm_rm d mc ms) (hd : 8 ≤ d) (hn : n + 1 < 1000000) (hk : k + 1 ≤ mc) (hw : w + 6 ≤ ms) {v0 : Nat} {c : mm_C} (hf : hO 0 ovI n (bX2_lookAtNumber_31 N  v0 c) Q) : mG Z qX2_lookAtNumber X k w mc ms Q (31, [(0, .ref v0)], [], (n, c)) := by
  unfold bX2_lookAtNumber_31 at hf
  refine mg_aload_n C rfl rfl ?_
  refine mh_gR C rfl rfl rfl (by decide) hf (fun x1 hf => ?_)
  refine mh_cVI (M' := qX10_number) C rfl rfl aX10_number iX10_number sX10_number hRm (by omega) (by decide) (by omega) (by omega) rfl rfl rfl (Nat.le_of_ble_eq_true rfl) rfl hf (fun hs => wX10_number (by omega) (by omega) hs) (fun r2 c3 hf => ?_)
  exact mh_ireturn C rfl (by omega) (by omega) rfl hf
def bX2_lookAtNumber_16 (N : Nat)  (v0 : Nat) (c : mm_C) : mR Int32 :=
  Option.bind (gR c v0 2 2) fun x1 => cV 10 x1 c (fX10_isTooLong N x1 c) fun r2 c3 => if r2 = 0 then (bX2_lookAtNumber_31 N  v0 c3) else (cV 2 v0 c3 (fX2_refuses N v0 (2 : Int32) c3) fun (_ : Unit) c4 => bX2_lookAtNumber_31 N  v0 c4)
set_option maxRecDepth 100000 in
theorem wX2_lookAtNumber_16 {Z : mm_Z} {X : mm_T} {k w mc ms d n N : Nat} {Q : mm_O → mm_H → Prop} (C : mm_Ok Z qX2_lookAtNumber X) (hRm : mt_R X = mm_rm d mc ms) (hd : 8 ≤ d) (hn : n + 1 < 1000000) (hk : k + 1 ≤ mc) (hw : w + 6 ≤ ms) {v0 : Nat} {c : mm_C} (hf : hO 0 ovI n (bX2_lookAtNumber_16 N  v0 c) Q) : mG Z qX2_lookAtNumber X k w mc ms Q (16, [(0, .ref v0)], [], (n, c)) := by
  unfold bX2_lookAtNumber_16 at hf
  refine mg_aload_n C rfl rfl ?_
  refine mh_gR C rfl rfl rfl (by decide) hf (fun x1 hf => ?_)
  refine mh_cVI (M' := qX10_isTooLong) C rfl rfl aX10_isTooLong iX10_isTooLong sX10_isTooLong hRm (by omega) (by decide) (by omega) (by omega) rfl rfl rfl (Nat.le_of_ble_eq_true rfl) rfl hf (fun hs => wX10_isTooLong (by omega) (by omega) hs) (fun r2 c3 hf => ?_)
  refine mh_if_eq C rfl hf (fun e_23 hf => ?_) (fun e_23 hf => ?_)
  · exact wX2_lookAtNumber_31 C hRm hd hn hk hw hf
  · refine mg_aload_n C rfl rfl ?_
    refine mg_iconst (v := 2) C rfl (by decide) ?_
    refine mh_cVU (M' := qX2_refuses) C rfl rfl aX2_refuses iX2_refuses sX2_refuses hRm (by omega) (by decide) (by omega) (by omega) rfl rfl rfl (Nat.le_of_ble_eq_true rfl) rfl hf (fun hs => wX2_refuses (by omega) (by omega) hs) (fun c4 hf => ?_)
    exact wX2_lookAtNumber_31 C hRm hd hn hk hw hf
def bX2_lookAtNumber_0 (N : Nat)  (v0 : Nat) (c : mm_C) : mR Int32 :=
  Option.bind (gR c v0 2 2) fun x1 => Option.bind (gI c x1 10 0) fun x2 => if x2 = (2 : Int32) then (bX2_lookAtNumber_16 N  v0 c) else (cV 2 v0 c (fX2_refuses N v0 (1 : Int32) c) fun (_ : Unit) c3 => bX2_lookAtNumber_16 N  v0 c3)
set_option maxRecDepth 100000 in
theorem wX2_lookAtNumber_0 {Z : mm_Z} {X : mm_T} {k w mc ms d n N : Nat} {Q : mm_O → mm_H → Prop} (C : mm_Ok Z qX2_lookAtNumber X) (hRm : mt_R X = mm_rm d mc ms) (hd : 8 ≤ d) (hn : n + 1 < 1000000) (hk : k + 1 ≤ mc) (hw : w + 6 ≤ ms) {v0 : Nat} {c : mm_C} (hf : hO 0 ovI n (bX2_lookAtNumber_0 N  v0 c) Q) : mG Z qX2_lookAtNumber X k w mc ms Q (0, [(0, .ref v0)], [], (n, c)) := by
  unfold bX2_lookAtNumber_0 at hf
  refine mg_aload_n C rfl rfl ?_
  refine mh_gR C rfl rfl rfl (by decide) hf (fun x1 hf => ?_)
  refine mh_gI C rfl rfl rfl (by decide) hf (fun x2 hf => ?_)
  refine mg_iconst (v := 2) C rfl (by decide) ?_
  refine mh_icmp_eq C rfl hf (fun e_8 hf => ?_) (fun e_8 hf => ?_)
  · exact wX2_lookAtNumber_16 C hRm hd hn hk hw hf
  · refine mg_aload_n C rfl rfl ?_
    refine mg_iconst (v := 1) C rfl (by decide) ?_
    refine mh_cVU (M' := qX2_refuses) C rfl rfl aX2_refuses iX2_refuses sX2_refuses hRm (by omega) (by decide) (by omega) (by omega) rfl rfl rfl (Nat.le_of_ble_eq_true rfl) rfl hf (fun hs => wX2_refuses (by omega) (by omega) hs) (fun c3 hf => ?_)
    exact wX2_lookAtNumber_16 C hRm hd hn hk hw hf
def fX2_lookAtNumber (N : Nat) (v0 : Nat) (c : mm_C) : mR Int32 := bX2_lookAtNumber_0 N v0 c
set_option maxRecDepth 100000 in
theorem wX2_lookAtNumber {Z : mm_Z} {d n N : Nat} (hd : 8 ≤ d) (hn : n + 1 < 1000000) {v0 : Nat} {c : mm_C} (hs : (fX2_lookAtNumber N v0 c).isSome = true) : mC Z qX2_lookAtNumber d 1 6 [.ref v0] (n, c) (mP 0 ovI n (fX2_lookAtNumber N v0 c)) := by
  refine mC_of gX2_lookAtNumber (by decide +kernel) (Nat.le_of_ble_eq_true rfl) fun X C hRm => ?_
  have hf := hO_mP 0 ovI n hs
  have hk : 0 + 1 ≤ 1 := Nat.le_of_ble_eq_true rfl
  have hw : 0 + 6 ≤ 6 := Nat.le_of_ble_eq_true rfl
  show mG _ _ _ _ _ _ _ _ (0, [(0, .ref v0)], [], (n, c))
  exact wX2_lookAtNumber_0 C hRm hd hn hk hw hf
def bX2_readsNumber_20 (N : Nat)  (v0 : Nat) (v3 : Int32) (c : mm_C) : mR Int32 :=
  Option.bind (gR c v0 2 2) fun x1 => cV 10 x1 c (fX10_advances N x1 c) fun (_ : Unit) c2 => some (.inl v3, c2)
set_option maxRecDepth 100000 in
theorem wX2_readsNumber_20 {Z : mm_Z} {X : mm_T} {k w mc ms d n N : Nat} {Q : mm_O → mm_H → Prop} (C : mm_Ok Z qX2_readsNumber X) (hRm : mt_R X = mm_rm d mc ms) (hd : 9 ≤ d) (hn : n + 1 < 1000000) (hk : k + 1 ≤ mc) (hw : w + 6 ≤ ms) {v0 : Nat} {v3 : Int32} {c : mm_C} (hf : hO 0 ovI n (bX2_readsNumber_20 N  v0 v3 c) Q) : mG Z qX2_readsNumber X k w mc ms Q (20, [(0, .ref v0), (3, .int v3)], [], (n, c)) := by
  unfold bX2_readsNumber_20 at hf
  refine mg_aload_n C rfl rfl ?_
  refine mh_gR C rfl rfl rfl (by decide) hf (fun x1 hf => ?_)
  refine mh_cVU (M' := qX10_advances) C rfl rfl aX10_advances iX10_advances sX10_advances hRm (by omega) (by decide) (by omega) (by omega) rfl rfl rfl (Nat.le_of_ble_eq_true rfl) rfl hf (fun hs => wX10_advances (by omega) (by omega) hs) (fun c2 hf => ?_)
  refine mg_iload_n C rfl rfl ?_
  exact mh_ireturn C rfl (by omega) (by omega) rfl hf
def bX2_readsNumber_15 (N : Nat)  (v0 : Nat) (v3 : Int32) (c : mm_C) : mR Int32 :=
  cV 2 v0 c (fX2_refuses N v0 (2 : Int32) c) fun (_ : Unit) c1 => bX2_readsNumber_20 N  v0 v3 c1
set_option maxRecDepth 100000 in
theorem wX2_readsNumber_15 {Z : mm_Z} {X : mm_T} {k w mc ms d n N : Nat} {Q : mm_O → mm_H → Prop} (C : mm_Ok Z qX2_readsNumber X) (hRm : mt_R X = mm_rm d mc ms) (hd : 9 ≤ d) (hn : n + 1 < 1000000) (hk : k + 1 ≤ mc) (hw : w + 6 ≤ ms) {v0 : Nat} {v3 : Int32} {c : mm_C} (hf : hO 0 ovI n (bX2_readsNumber_15 N  v0 v3 c) Q) : mG Z qX2_readsNumber X k w mc ms Q (15, [(0, .ref v0), (3, .int v3)], [], (n, c)) := by
  unfold bX2_readsNumber_15 at hf
  refine mg_aload_n C rfl rfl ?_
  refine mg_iconst (v := 2) C rfl (by decide) ?_
  refine mh_cVU (M' := qX2_refuses) C rfl rfl aX2_refuses iX2_refuses sX2_refuses hRm (by omega) (by decide) (by omega) (by omega) rfl rfl rfl (Nat.le_of_ble_eq_true rfl) rfl hf (fun hs => wX2_refuses (by omega) (by omega) hs) (fun c1 hf => ?_)
  exact wX2_readsNumber_20 C hRm hd hn hk hw hf
def bX2_readsNumber_0 (N : Nat)  (v0 : Nat) (v1 : Int32) (v2 : Int32) (c : mm_C) : mR Int32 :=
  cV 2 v0 c (fX2_lookAtNumber N v0 c) fun r1 c2 => if r1 < v1 then (bX2_readsNumber_15 N  v0 r1 c2) else (if r1 ≤ v2 then (bX2_readsNumber_20 N  v0 r1 c2) else (bX2_readsNumber_15 N  v0 r1 c2))
set_option maxRecDepth 100000 in
theorem wX2_readsNumber_0 {Z : mm_Z} {X : mm_T} {k w mc ms d n N : Nat} {Q : mm_O → mm_H → Prop} (C : mm_Ok Z qX2_readsNumber X) (hRm : mt_R X = mm_rm d mc ms) (hd : 9 ≤ d) (hn : n + 1 < 1000000) (hk : k + 1 ≤ mc) (hw : w + 6 ≤ ms) {v0 : Nat} {v1 : Int32} {v2 : Int32} {c : mm_C} (hf : hO 0 ovI n (bX2_readsNumber_0 N  v0 v1 v2 c) Q) : mG Z qX2_readsNumber X k w mc ms Q (0, [(0, .ref v0), (1, .int v1), (2, .int v2)], [], (n, c)) := by
  unfold bX2_readsNumber_0 at hf
  refine mg_aload_n C rfl rfl ?_
  refine mh_cVI (M' := qX2_lookAtNumber) C rfl rfl aX2_lookAtNumber iX2_lookAtNumber sX2_lookAtNumber hRm (by omega) (by decide) (by omega) (by omega) rfl rfl rfl (Nat.le_of_ble_eq_true rfl) rfl hf (fun hs => wX2_lookAtNumber (by omega) (by omega) hs) (fun r1 c2 hf => ?_)
  refine mg_istore_n (lv' := [(0, .ref v0), (1, .int v1), (2, .int v2), (3, .int r1)]) C rfl (Nat.le_of_ble_eq_true rfl) rfl ?_
  refine mg_iload_n C rfl rfl ?_
  refine mg_iload_n C rfl rfl ?_
  refine mh_icmp_lt C rfl hf (fun e_7 hf => ?_) (fun e_7 hf => ?_)
  · refine mg_sub (lv' := [(0, .ref v0), (3, .int r1)]) (by simp) ?_
    exact wX2_readsNumber_15 C hRm hd hn hk hw hf
  · refine mg_iload_n C rfl rfl ?_
    refine mg_iload_n C rfl rfl ?_
    refine mh_icmp_le C rfl hf (fun e_12 hf => ?_) (fun e_12 hf => ?_)
    · refine mg_sub (lv' := [(0, .ref v0), (3, .int r1)]) (by simp) ?_
      exact wX2_readsNumber_20 C hRm hd hn hk hw hf
    · refine mg_sub (lv' := [(0, .ref v0), (3, .int r1)]) (by simp) ?_
      exact wX2_readsNumber_15 C hRm hd hn hk hw hf
def fX2_readsNumber (N : Nat) (v0 : Nat) (v1 : Int32) (v2 : Int32) (c : mm_C) : mR Int32 := bX2_readsNumber_0 N v0 v1 v2 c
set_option maxRecDepth 100000 in
theorem wX2_readsNumber {Z : mm_Z} {d n N : Nat} (hd : 9 ≤ d) (hn : n + 1 < 1000000) {v0 : Nat} {v1 : Int32} {v2 : Int32} {c : mm_C} (hs : (fX2_readsNumber N v0 v1 v2 c).isSome = true) : mC Z qX2_readsNumber d 1 6 [.ref v0, .int v1, .int v2] (n, c) (mP 0 ovI n (fX2_readsNumber N v0 v1 v2 c)) := by
  refine mC_of gX2_readsNumber (by decide +kernel) (Nat.le_of_ble_eq_true rfl) fun X C hRm => ?_
  have hf := hO_mP 0 ovI n hs
  have hk : 0 + 1 ≤ 1 := Nat.le_of_ble_eq_true rfl
  have hw : 0 + 6 ≤ 6 := Nat.le_of_ble_eq_true rfl
  show mG _ _ _ _ _ _ _ _ (0, [(0, .ref v0), (1, .int v1), (2, .int v2)], [], (n, c))
  exact wX2_readsNumber_0 C hRm hd hn hk hw hf
def bX2_readsOnce_9 (N : Nat)  (v0 : Nat) (v2 : Int32) (v3 : Int32) (c : mm_C) : mR Int32 :=
  Option.bind (gR c v0 2 2) fun x1 => cV 10 x1 c (fX10_advances N x1 c) fun (_ : Unit) c2 => cV 2 v0 c2 (fX2_readsNumber N v0 v2 v3 c2) fun r3 c4 => some (.inl r3, c4)
set_option maxRecDepth 100000 in
theorem wX2_readsOnce_9 {Z : mm_Z} {X : mm_T} {k w mc ms d n N : Nat} {Q : mm_O → mm_H → Prop} (C : mm_Ok Z qX2_readsOnce X) (hRm : mt_R X = mm_rm d mc ms) (hd : 10 ≤ d) (hn : n + 1 < 1000000) (hk : k + 1 ≤ mc) (hw : w + 6 ≤ ms) {v0 : Nat} {v2 : Int32} {v3 : Int32} {c : mm_C} (hf : hO 0 ovI n (bX2_readsOnce_9 N  v0 v2 v3 c) Q) : mG Z qX2_readsOnce X k w mc ms Q (9, [(0, .ref v0), (2, .int v2), (3, .int v3)], [], (n, c)) := by
  unfold bX2_readsOnce_9 at hf
  refine mg_aload_n C rfl rfl ?_
  refine mh_gR C rfl rfl rfl (by decide) hf (fun x1 hf => ?_)
  refine mh_cVU (M' := qX10_advances) C rfl rfl aX10_advances iX10_advances sX10_advances hRm (by omega) (by decide) (by omega) (by omega) rfl rfl rfl (Nat.le_of_ble_eq_true rfl) rfl hf (fun hs => wX10_advances (by omega) (by omega) hs) (fun c2 hf => ?_)
  refine mg_aload_n C rfl rfl ?_
  refine mg_iload_n C rfl rfl ?_
  refine mg_iload_n C rfl rfl ?_
  refine mh_cVI (M' := qX2_readsNumber) C rfl rfl aX2_readsNumber iX2_readsNumber sX2_readsNumber hRm (by omega) (by decide) (by omega) (by omega) rfl rfl rfl (Nat.le_of_ble_eq_true rfl) rfl hf (fun hs => wX2_readsNumber (by omega) (by omega) hs) (fun r3 c4 hf => ?_)
  exact mh_ireturn C rfl (by omega) (by omega) rfl hf
def bX2_readsOnce_0 (N : Nat)  (v0 : Nat) (v1 : Int32) (v2 : Int32) (v3 : Int32) (c : mm_C) : mR Int32 :=
  if v1 = 0 then (bX2_readsOnce_9 N  v0 v2 v3 c) else (cV 2 v0 c (fX2_refuses N v0 (4 : Int32) c) fun (_ : Unit) c1 => bX2_readsOnce_9 N  v0 v2 v3 c1)
set_option maxRecDepth 100000 in
theorem wX2_readsOnce_0 {Z : mm_Z} {X : mm_T} {k w mc ms d n N : Nat} {Q : mm_O → mm_H → Prop} (C : mm_Ok Z qX2_readsOnce X) (hRm : mt_R X = mm_rm d mc ms) (hd : 10 ≤ d) (hn : n + 1 < 1000000) (hk : k + 1 ≤ mc) (hw : w + 6 ≤ ms) {v0 : Nat} {v1 : Int32} {v2 : Int32} {v3 : Int32} {c : mm_C} (hf : hO 0 ovI n (bX2_readsOnce_0 N  v0 v1 v2 v3 c) Q) : mG Z qX2_readsOnce X k w mc ms Q (0, [(0, .ref v0), (1, .int v1), (2, .int v2), (3, .int v3)], [], (n, c)) := by
  unfold bX2_readsOnce_0 at hf
  refine mg_iload_n C rfl rfl ?_
  refine mh_if_eq C rfl hf (fun e_1 hf => ?_) (fun e_1 hf => ?_)
  · refine mg_sub (lv' := [(0, .ref v0), (2, .int v2), (3, .int v3)]) (by simp) ?_
    exact wX2_readsOnce_9 C hRm hd hn hk hw hf
  · refine mg_aload_n C rfl rfl ?_
    refine mg_iconst (v := 4) C rfl (by decide) ?_
    refine mh_cVU (M' := qX2_refuses) C rfl rfl aX2_refuses iX2_refuses sX2_refuses hRm (by omega) (by decide) (by omega) (by omega) rfl rfl rfl (Nat.le_of_ble_eq_true rfl) rfl hf (fun hs => wX2_refuses (by omega) (by omega) hs) (fun c1 hf => ?_)
    refine mg_sub (lv' := [(0, .ref v0), (2, .int v2), (3, .int v3)]) (by simp) ?_
    exact wX2_readsOnce_9 C hRm hd hn hk hw hf
def fX2_readsOnce (N : Nat) (v0 : Nat) (v1 : Int32) (v2 : Int32) (v3 : Int32) (c : mm_C) : mR Int32 := bX2_readsOnce_0 N v0 v1 v2 v3 c
set_option maxRecDepth 100000 in
theorem wX2_readsOnce {Z : mm_Z} {d n N : Nat} (hd : 10 ≤ d) (hn : n + 1 < 1000000) {v0 : Nat} {v1 : Int32} {v2 : Int32} {v3 : Int32} {c : mm_C} (hs : (fX2_readsOnce N v0 v1 v2 v3 c).isSome = true) : mC Z qX2_readsOnce d 1 6 [.ref v0, .int v1, .int v2, .int v3] (n, c) (mP 0 ovI n (fX2_readsOnce N v0 v1 v2 v3 c)) := by
  refine mC_of gX2_readsOnce (by decide +kernel) (Nat.le_of_ble_eq_true rfl) fun X C hRm => ?_
  have hf := hO_mP 0 ovI n hs
  have hk : 0 + 1 ≤ 1 := Nat.le_of_ble_eq_true rfl
  have hw : 0 + 6 ≤ 6 := Nat.le_of_ble_eq_true rfl
  show mG _ _ _ _ _ _ _ _ (0, [(0, .ref v0), (1, .int v1), (2, .int v2), (3, .int v3)], [], (n, c))
  exact wX2_readsOnce_0 C hRm hd hn hk hw hf
def bX2_readsPart_17 (N : Nat)  (v0 : Nat) (v1 : Int32) (c : mm_C) : mR Unit :=
  Option.bind (gR c v0 2 2) fun x1 => cV 10 x1 c (fX10_advances N x1 c) fun (_ : Unit) c2 => Option.bind (gR c2 v0 2 3) fun x3 => cV 2 v0 c2 (fX2_readsNumber N v0 (1 : Int32) (480 : Int32) c2) fun r4 c5 => cV 3 x3 c5 (fX3_addPart N x3 v1 r4 c5) fun (_ : Unit) c6 => some (.inl (), c6)
set_option maxRecDepth 100000 in
theorem wX2_readsPart_17 {Z : mm_Z} {X : mm_T} {k w mc ms d n N : Nat} {Q : mm_O → mm_H → Prop} (C : mm_Ok Z qX2_readsPart X) (hRm : mt_R X = mm_rm d mc ms) (hd : 10 ≤ d) (hn : n + 1 < 1000000) (hk : k + 1 ≤ mc) (hw : w + 6 ≤ ms) {v0 : Nat} {v1 : Int32} {c : mm_C} (hf : hO 0 ovU n (bX2_readsPart_17 N  v0 v1 c) Q) : mG Z qX2_readsPart X k w mc ms Q (17, [(0, .ref v0), (1, .int v1)], [], (n, c)) := by
  unfold bX2_readsPart_17 at hf
  refine mg_aload_n C rfl rfl ?_
  refine mh_gR C rfl rfl rfl (by decide) hf (fun x1 hf => ?_)
  refine mh_cVU (M' := qX10_advances) C rfl rfl aX10_advances iX10_advances sX10_advances hRm (by omega) (by decide) (by omega) (by omega) rfl rfl rfl (Nat.le_of_ble_eq_true rfl) rfl hf (fun hs => wX10_advances (by omega) (by omega) hs) (fun c2 hf => ?_)
  refine mg_aload_n C rfl rfl ?_
  refine mh_gR C rfl rfl rfl (by decide) hf (fun x3 hf => ?_)
  refine mg_iload_n C rfl rfl ?_
  refine mg_aload_n C rfl rfl ?_
  refine mg_iconst (v := 1) C rfl (by decide) ?_
  refine mg_sipush (v := 480) C rfl (by decide) ?_
  refine mh_cVI (M' := qX2_readsNumber) C rfl rfl aX2_readsNumber iX2_readsNumber sX2_readsNumber hRm (by omega) (by decide) (by omega) (by omega) rfl rfl rfl (Nat.le_of_ble_eq_true rfl) rfl hf (fun hs => wX2_readsNumber (by omega) (by omega) hs) (fun r4 c5 hf => ?_)
  refine mh_cVU (M' := qX3_addPart) C rfl rfl aX3_addPart iX3_addPart sX3_addPart hRm (by omega) (by decide) (by omega) (by omega) rfl rfl rfl (Nat.le_of_ble_eq_true rfl) rfl hf (fun hs => wX3_addPart (by omega) (by omega) hs) (fun c6 hf => ?_)
  exact mh_return C rfl (by omega) (by omega) rfl hf
def bX2_readsPart_0 (N : Nat)  (v0 : Nat) (v1 : Int32) (c : mm_C) : mR Unit :=
  Option.bind (gR c v0 2 3) fun x1 => Option.bind (gI c x1 3 4) fun x2 => if x2 < (16 : Int32) then (bX2_readsPart_17 N  v0 v1 c) else (cV 2 v0 c (fX2_refuses N v0 (2 : Int32) c) fun (_ : Unit) c3 => bX2_readsPart_17 N  v0 v1 c3)
set_option maxRecDepth 100000 in
theorem wX2_readsPart_0 {Z : mm_Z} {X : mm_T} {k w mc ms d n N : Nat} {Q : mm_O → mm_H → Prop} (C : mm_Ok Z qX2_readsPart X) (hRm : mt_R X = mm_rm d mc ms) (hd : 10 ≤ d) (hn : n + 1 < 1000000) (hk : k + 1 ≤ mc) (hw : w + 6 ≤ ms) {v0 : Nat} {v1 : Int32} {c : mm_C} (hf : hO 0 ovU n (bX2_readsPart_0 N  v0 v1 c) Q) : mG Z qX2_readsPart X k w mc ms Q (0, [(0, .ref v0), (1, .int v1)], [], (n, c)) := by
  unfold bX2_readsPart_0 at hf
  refine mg_aload_n C rfl rfl ?_
  refine mh_gR C rfl rfl rfl (by decide) hf (fun x1 hf => ?_)
  refine mh_gI C rfl rfl rfl (by decide) hf (fun x2 hf => ?_)
  refine mg_bipush (v := 16) C rfl (by decide) ?_
  refine mh_icmp_lt C rfl hf (fun e_9 hf => ?_) (fun e_9 hf => ?_)
  · exact wX2_readsPart_17 C hRm hd hn hk hw hf
  · refine mg_aload_n C rfl rfl ?_
    refine mg_iconst (v := 2) C rfl (by decide) ?_
    refine mh_cVU (M' := qX2_refuses) C rfl rfl aX2_refuses iX2_refuses sX2_refuses hRm (by omega) (by decide) (by omega) (by omega) rfl rfl rfl (Nat.le_of_ble_eq_true rfl) rfl hf (fun hs => wX2_refuses (by omega) (by omega) hs) (fun c3 hf => ?_)
    exact wX2_readsPart_17 C hRm hd hn hk hw hf
def fX2_readsPart (N : Nat) (v0 : Nat) (v1 : Int32) (c : mm_C) : mR Unit := bX2_readsPart_0 N v0 v1 c
set_option maxRecDepth 100000 in
theorem wX2_readsPart {Z : mm_Z} {d n N : Nat} (hd : 10 ≤ d) (hn : n + 1 < 1000000) {v0 : Nat} {v1 : Int32} {c : mm_C} (hs : (fX2_readsPart N v0 v1 c).isSome = true) : mC Z qX2_readsPart d 1 6 [.ref v0, .int v1] (n, c) (mP 0 ovU n (fX2_readsPart N v0 v1 c)) := by
  refine mC_of gX2_readsPart (by decide +kernel) (Nat.le_of_ble_eq_true rfl) fun X C hRm => ?_
  have hf := hO_mP 0 ovU n hs
  have hk : 0 + 1 ≤ 1 := Nat.le_of_ble_eq_true rfl
  have hw : 0 + 6 ≤ 6 := Nat.le_of_ble_eq_true rfl
  show mG _ _ _ _ _ _ _ _ (0, [(0, .ref v0), (1, .int v1)], [], (n, c))
  exact wX2_readsPart_0 C hRm hd hn hk hw hf
def bX2_beginsPart_34 (N : Nat)   (c : mm_C) : mR Int32 :=
  rZ (1 : Int32) c
set_option maxRecDepth 100000 in
theorem wX2_beginsPart_34 {Z : mm_Z} {X : mm_T} {k w mc ms d n N : Nat} {Q : mm_O → mm_H → Prop} (C : mm_Ok Z qX2_beginsPart X) (hRm : mt_R X = mm_rm d mc ms) (hd : 2 ≤ d) (hn : n + 1 < 1000000) (hk : k + 1 ≤ mc) (hw : w + 6 ≤ ms)  {c : mm_C} (hf : hO 0 ovI n (bX2_beginsPart_34 N   c) Q) : mG Z qX2_beginsPart X k w mc ms Q (34, [], [], (n, c)) := by
  unfold bX2_beginsPart_34 at hf
  refine mg_iconst (v := 1) C rfl (by decide) ?_
  refine mg_goto C rfl ?_
  exact mh_zreturn C rfl (by omega) (by omega) rfl hf
def bX2_beginsPart_0 (N : Nat)  (v0 : Nat) (c : mm_C) : mR Int32 :=
  Option.bind (gR c v0 2 2) fun x1 => Option.bind (gI c x1 10 0) fun x2 => if x2 = (2 : Int32) then (bX2_beginsPart_34 N  c) else (Option.bind (gR c v0 2 2) fun x3 => Option.bind (gI c x3 10 0) fun x4 => if x4 = (1 : Int32) then (bX2_beginsPart_34 N  c) else (Option.bind (gR c v0 2 2) fun x5 => cV 10 x5 c (fX10_isSign N x5 (40 : Int32) c) fun r6 c7 => if r6 = 0 then (rZ (0 : Int32) c7) else (bX2_beginsPart_34 N  c7)))
set_option maxRecDepth 100000 in
theorem wX2_beginsPart_0 {Z : mm_Z} {X : mm_T} {k w mc ms d n N : Nat} {Q : mm_O → mm_H → Prop} (C : mm_Ok Z qX2_beginsPart X) (hRm : mt_R X = mm_rm d mc ms) (hd : 2 ≤ d) (hn : n + 1 < 1000000) (hk : k + 1 ≤ mc) (hw : w + 6 ≤ ms) {v0 : Nat} {c : mm_C} (hf : hO 0 ovI n (bX2_beginsPart_0 N  v0 c) Q) : mG Z qX2_beginsPart X k w mc ms Q (0, [(0, .ref v0)], [], (n, c)) := by
  unfold bX2_beginsPart_0 at hf
  refine mg_aload_n C rfl rfl ?_
  refine mh_gR C rfl rfl rfl (by decide) hf (fun x1 hf => ?_)
  refine mh_gI C rfl rfl rfl (by decide) hf (fun x2 hf => ?_)
  refine mg_iconst (v := 2) C rfl (by decide) ?_
  refine mh_icmp_eq C rfl hf (fun e_8 hf => ?_) (fun e_8 hf => ?_)
  · refine mg_sub (lv' := []) (by simp) ?_
    exact wX2_beginsPart_34 C hRm hd hn hk hw hf
  · refine mg_aload_n C rfl rfl ?_
    refine mh_gR C rfl rfl rfl (by decide) hf (fun x3 hf => ?_)
    refine mh_gI C rfl rfl rfl (by decide) hf (fun x4 hf => ?_)
    refine mg_iconst (v := 1) C rfl (by decide) ?_
    refine mh_icmp_eq C rfl hf (fun e_19 hf => ?_) (fun e_19 hf => ?_)
    · refine mg_sub (lv' := []) (by simp) ?_
      exact wX2_beginsPart_34 C hRm hd hn hk hw hf
    · refine mg_aload_n C rfl rfl ?_
      refine mh_gR C rfl rfl rfl (by decide) hf (fun x5 hf => ?_)
      refine mg_bipush (v := 40) C rfl (by decide) ?_
      refine mh_cVI (M' := qX10_isSign) C rfl rfl aX10_isSign iX10_isSign sX10_isSign hRm (by omega) (by decide) (by omega) (by omega) rfl rfl rfl (Nat.le_of_ble_eq_true rfl) rfl hf (fun hs => wX10_isSign (by omega) (by omega) hs) (fun r6 c7 hf => ?_)
      refine mh_if_eq C rfl hf (fun e_31 hf => ?_) (fun e_31 hf => ?_)
      · refine mg_iconst (v := 0) C rfl (by decide) ?_
        exact mh_zreturn C rfl (by omega) (by omega) rfl hf
      · refine mg_sub (lv' := []) (by simp) ?_
        exact wX2_beginsPart_34 C hRm hd hn hk hw hf
def fX2_beginsPart (N : Nat) (v0 : Nat) (c : mm_C) : mR Int32 := bX2_beginsPart_0 N v0 c
set_option maxRecDepth 100000 in
theorem wX2_beginsPart {Z : mm_Z} {d n N : Nat} (hd : 2 ≤ d) (hn : n + 1 < 1000000) {v0 : Nat} {c : mm_C} (hs : (fX2_beginsPart N v0 c).isSome = true) : mC Z qX2_beginsPart d 1 6 [.ref v0] (n, c) (mP 0 ovI n (fX2_beginsPart N v0 c)) := by
  refine mC_of gX2_beginsPart (by decide +kernel) (Nat.le_of_ble_eq_true rfl) fun X C hRm => ?_
  have hf := hO_mP 0 ovI n hs
  have hk : 0 + 1 ≤ 1 := Nat.le_of_ble_eq_true rfl
  have hw : 0 + 6 ≤ 6 := Nat.le_of_ble_eq_true rfl
  show mG _ _ _ _ _ _ _ _ (0, [(0, .ref v0)], [], (n, c))
  exact wX2_beginsPart_0 C hRm hd hn hk hw hf
def bX2_readsOperand_107 (N : Nat) (eE : Nat → Int32 → mm_C → mR Unit)  (v0 : Nat) (c : mm_C) : mR Unit :=
  Option.bind (gR c v0 2 2) fun x1 => cV 10 x1 c (fX10_advances N x1 c) fun (_ : Unit) c2 => some (.inl (), c2)
set_option maxRecDepth 100000 in
theorem wX2_readsOperand_107 {Z : mm_Z} {X : mm_T} {k w mc ms d n N : Nat} {Q : mm_O → mm_H → Prop} {eE : Nat → Int32 → mm_C → mR Unit} {dE : Nat} (hE : hE_X2_readsExpr Z dE eE) (C : mm_Ok Z qX2_readsOperand X) (hRm : mt_R X = mm_rm d mc ms) (hd : 9 ≤ d) (hde : dE + 1 ≤ d) (hn : n + 1 < 1000000) (hk : k + 1 ≤ mc) (hw : w + 6 ≤ ms) {v0 : Nat} {c : mm_C} (hf : hO 0 ovU n (bX2_readsOperand_107 N eE  v0 c) Q) : mG Z qX2_readsOperand X k w mc ms Q (107, [(0, .ref v0)], [], (n, c)) := by
  unfold bX2_readsOperand_107 at hf
  refine mg_aload_n C rfl rfl ?_
  refine mh_gR C rfl rfl rfl (by decide) hf (fun x1 hf => ?_)
  refine mh_cVU (M' := qX10_advances) C rfl rfl aX10_advances iX10_advances sX10_advances hRm (by omega) (by decide) (by omega) (by omega) rfl rfl rfl (Nat.le_of_ble_eq_true rfl) rfl hf (fun hs => wX10_advances (by omega) (by omega) hs) (fun c2 hf => ?_)
  exact mh_return C rfl (by omega) (by omega) rfl hf
def bX2_readsOperand_31 (N : Nat) (eE : Nat → Int32 → mm_C → mR Unit)  (v0 : Nat) (v2 : Int32) (c : mm_C) : mR Unit :=
  Option.bind (gR c v0 2 3) fun x1 => Option.bind (gR c x1 3 8) fun x2 => cV 4 x2 c (fX4_emits N x2 ((-1 : Int32) - v2) c) fun (_ : Unit) c3 => bX2_readsOperand_107 N eE  v0 c3
set_option maxRecDepth 100000 in
theorem wX2_readsOperand_31 {Z : mm_Z} {X : mm_T} {k w mc ms d n N : Nat} {Q : mm_O → mm_H → Prop} {eE : Nat → Int32 → mm_C → mR Unit} {dE : Nat} (hE : hE_X2_readsExpr Z dE eE) (C : mm_Ok Z qX2_readsOperand X) (hRm : mt_R X = mm_rm d mc ms) (hd : 9 ≤ d) (hde : dE + 1 ≤ d) (hn : n + 1 < 1000000) (hk : k + 1 ≤ mc) (hw : w + 6 ≤ ms) {v0 : Nat} {v2 : Int32} {c : mm_C} (hf : hO 0 ovU n (bX2_readsOperand_31 N eE  v0 v2 c) Q) : mG Z qX2_readsOperand X k w mc ms Q (31, [(0, .ref v0), (2, .int v2)], [], (n, c)) := by
  unfold bX2_readsOperand_31 at hf
  refine mg_aload_n C rfl rfl ?_
  refine mh_gR C rfl rfl rfl (by decide) hf (fun x1 hf => ?_)
  refine mh_gR C rfl rfl rfl (by decide) hf (fun x2 hf => ?_)
  refine mg_iconst (v := (-1)) C rfl (by decide) ?_
  refine mg_iload_n C rfl rfl ?_
  refine mg_isub C rfl ?_
  refine mh_cVU (M' := qX4_emits) C rfl rfl aX4_emits iX4_emits sX4_emits hRm (by omega) (by decide) (by omega) (by omega) rfl rfl rfl (Nat.le_of_ble_eq_true rfl) rfl hf (fun hs => wX4_emits (by omega) (by omega) hs) (fun c3 hf => ?_)
  refine mg_goto C rfl ?_
  refine mg_sub (lv' := [(0, .ref v0)]) (by simp) ?_
  exact wX2_readsOperand_107 hE C hRm hd hde hn hk hw hf
def bX2_readsOperand_0 (N : Nat) (eE : Nat → Int32 → mm_C → mR Unit)  (v0 : Nat) (v1 : Int32) (c : mm_C) : mR Unit :=
  Option.bind (gR c v0 2 2) fun x1 => Option.bind (gI c x1 10 0) fun x2 => if ¬ x2 = (1 : Int32) then (Option.bind (gR c v0 2 2) fun x3 => cV 10 x3 c (fX10_isSign N x3 (40 : Int32) c) fun r4 c5 => if r4 = 0 then (Option.bind (gR c5 v0 2 3) fun x6 => Option.bind (gR c5 x6 3 8) fun x7 => cV 2 v0 c5 (fX2_lookAtNumber N v0 c5) fun r8 c9 => cV 4 x7 c9 (fX4_emits N x7 r8 c9) fun (_ : Unit) c10 => bX2_readsOperand_107 N eE  v0 c10) else (Option.bind (gR c5 v0 2 2) fun x11 => cV 10 x11 c5 (fX10_advances N x11 c5) fun (_ : Unit) c12 => cV 2 v0 c12 (eE v0 (v1 + (1 : Int32)) c12) fun (_ : Unit) c13 => Option.bind (gR c13 v0 2 2) fun x14 => cV 10 x14 c13 (fX10_isSign N x14 (41 : Int32) c13) fun r15 c16 => if ¬ r15 = 0 then (bX2_readsOperand_107 N eE  v0 c16) else (cV 2 v0 c16 (fX2_refuses N v0 (1 : Int32) c16) fun (_ : Unit) c17 => bX2_readsOperand_107 N eE  v0 c17))) else (Option.bind (gR c v0 2 2) fun x18 => cV 10 x18 c (fX10_indexIn N x18 (1000000 + 6) c) fun r19 c20 => if ¬ r19 = (-1 : Int32) then (bX2_readsOperand_31 N eE  v0 r19 c20) else (cV 2 v0 c20 (fX2_refuses N v0 (3 : Int32) c20) fun (_ : Unit) c21 => bX2_readsOperand_31 N eE  v0 r19 c21))
set_option maxRecDepth 100000 in
theorem wX2_readsOperand_0 {Z : mm_Z} {X : mm_T} {k w mc ms d n N : Nat} {Q : mm_O → mm_H → Prop} {eE : Nat → Int32 → mm_C → mR Unit} {dE : Nat} (hE : hE_X2_readsExpr Z dE eE) (C : mm_Ok Z qX2_readsOperand X) (hRm : mt_R X = mm_rm d mc ms) (hd : 9 ≤ d) (hde : dE + 1 ≤ d) (hn : n + 1 < 1000000) (hk : k + 1 ≤ mc) (hw : w + 6 ≤ ms) {v0 : Nat} {v1 : Int32} {c : mm_C} (hf : hO 0 ovU n (bX2_readsOperand_0 N eE  v0 v1 c) Q) : mG Z qX2_readsOperand X k w mc ms Q (0, [(0, .ref v0), (1, .int v1)], [], (n, c)) := by
  unfold bX2_readsOperand_0 at hf
  refine mg_aload_n C rfl rfl ?_
  refine mh_gR C rfl rfl rfl (by decide) hf (fun x1 hf => ?_)
  refine mh_gI C rfl rfl rfl (by decide) hf (fun x2 hf => ?_)
  refine mg_iconst (v := 1) C rfl (by decide) ?_
  refine mh_icmp_ne C rfl hf (fun e_8 hf => ?_) (fun e_8 hf => ?_)
  · refine mg_aload_n C rfl rfl ?_
    refine mh_gR C rfl rfl rfl (by decide) hf (fun x3 hf => ?_)
    refine mg_bipush (v := 40) C rfl (by decide) ?_
    refine mh_cVI (M' := qX10_isSign) C rfl rfl aX10_isSign iX10_isSign sX10_isSign hRm (by omega) (by decide) (by omega) (by omega) rfl rfl rfl (Nat.le_of_ble_eq_true rfl) rfl hf (fun hs => wX10_isSign (by omega) (by omega) hs) (fun r4 c5 hf => ?_)
    refine mh_if_eq C rfl hf (fun e_56 hf => ?_) (fun e_56 hf => ?_)
    · refine mg_aload_n C rfl rfl ?_
      refine mh_gR C rfl rfl rfl (by decide) hf (fun x6 hf => ?_)
      refine mh_gR C rfl rfl rfl (by decide) hf (fun x7 hf => ?_)
      refine mg_aload_n C rfl rfl ?_
      refine mh_cVI (M' := qX2_lookAtNumber) C rfl rfl aX2_lookAtNumber iX2_lookAtNumber sX2_lookAtNumber hRm (by omega) (by decide) (by omega) (by omega) rfl rfl rfl (Nat.le_of_ble_eq_true rfl) rfl hf (fun hs => wX2_lookAtNumber (by omega) (by omega) hs) (fun r8 c9 hf => ?_)
      refine mh_cVU (M' := qX4_emits) C rfl rfl aX4_emits iX4_emits sX4_emits hRm (by omega) (by decide) (by omega) (by omega) rfl rfl rfl (Nat.le_of_ble_eq_true rfl) rfl hf (fun hs => wX4_emits (by omega) (by omega) hs) (fun c10 hf => ?_)
      refine mg_sub (lv' := [(0, .ref v0)]) (by simp) ?_
      exact wX2_readsOperand_107 hE C hRm hd hde hn hk hw hf
    · refine mg_aload_n C rfl rfl ?_
      refine mh_gR C rfl rfl rfl (by decide) hf (fun x11 hf => ?_)
      refine mh_cVU (M' := qX10_advances) C rfl rfl aX10_advances iX10_advances sX10_advances hRm (by omega) (by decide) (by omega) (by omega) rfl rfl rfl (Nat.le_of_ble_eq_true rfl) rfl hf (fun hs => wX10_advances (by omega) (by omega) hs) (fun c12 hf => ?_)
      refine mg_aload_n C rfl rfl ?_
      refine mg_iload_n C rfl rfl ?_
      refine mg_iconst (v := 1) C rfl (by decide) ?_
      refine mg_iadd C rfl ?_
      refine mh_cVU (M' := qX2_readsExpr) C rfl rfl aX2_readsExpr iX2_readsExpr sX2_readsExpr hRm (by omega) (by decide) (by omega) (by omega) rfl rfl rfl (Nat.le_of_ble_eq_true rfl) rfl hf (fun hs => hE _ (by omega) _ (by omega) _ _ _ hs) (fun c13 hf => ?_)
      refine mg_aload_n C rfl rfl ?_
      refine mh_gR C rfl rfl rfl (by decide) hf (fun x14 hf => ?_)
      refine mg_bipush (v := 41) C rfl (by decide) ?_
      refine mh_cVI (M' := qX10_isSign) C rfl rfl aX10_isSign iX10_isSign sX10_isSign hRm (by omega) (by decide) (by omega) (by omega) rfl rfl rfl (Nat.le_of_ble_eq_true rfl) rfl hf (fun hs => wX10_isSign (by omega) (by omega) hs) (fun r15 c16 hf => ?_)
      refine mh_if_ne C rfl hf (fun e_82 hf => ?_) (fun e_82 hf => ?_)
      · refine mg_sub (lv' := [(0, .ref v0)]) (by simp) ?_
        exact wX2_readsOperand_107 hE C hRm hd hde hn hk hw hf
      · refine mg_aload_n C rfl rfl ?_
        refine mg_iconst (v := 1) C rfl (by decide) ?_
        refine mh_cVU (M' := qX2_refuses) C rfl rfl aX2_refuses iX2_refuses sX2_refuses hRm (by omega) (by decide) (by omega) (by omega) rfl rfl rfl (Nat.le_of_ble_eq_true rfl) rfl hf (fun hs => wX2_refuses (by omega) (by omega) hs) (fun c17 hf => ?_)
        refine mg_goto C rfl ?_
        refine mg_sub (lv' := [(0, .ref v0)]) (by simp) ?_
        exact wX2_readsOperand_107 hE C hRm hd hde hn hk hw hf
  · refine mg_aload_n C rfl rfl ?_
    refine mh_gR C rfl rfl rfl (by decide) hf (fun x18 hf => ?_)
    refine mg_ldcS (i := 6) (tx := "length kind light left until hour waited tries ") C rfl (by decide) ?_
    refine mh_cVI (M' := qX10_indexIn) C rfl rfl aX10_indexIn iX10_indexIn sX10_indexIn hRm (by omega) (by decide) (by omega) (by omega) rfl rfl rfl (Nat.le_of_ble_eq_true rfl) rfl hf (fun hs => wX10_indexIn (by omega) (by omega) hs) (fun r19 c20 hf => ?_)
    refine mg_istore_n (lv' := [(0, .ref v0), (1, .int v1), (2, .int r19)]) C rfl (Nat.le_of_ble_eq_true rfl) rfl ?_
    refine mg_iload_n C rfl rfl ?_
    refine mg_iconst (v := (-1)) C rfl (by decide) ?_
    refine mh_icmp_ne C rfl hf (fun e_23 hf => ?_) (fun e_23 hf => ?_)
    · refine mg_sub (lv' := [(0, .ref v0), (2, .int r19)]) (by simp) ?_
      exact wX2_readsOperand_31 hE C hRm hd hde hn hk hw hf
    · refine mg_aload_n C rfl rfl ?_
      refine mg_iconst (v := 3) C rfl (by decide) ?_
      refine mh_cVU (M' := qX2_refuses) C rfl rfl aX2_refuses iX2_refuses sX2_refuses hRm (by omega) (by decide) (by omega) (by omega) rfl rfl rfl (Nat.le_of_ble_eq_true rfl) rfl hf (fun hs => wX2_refuses (by omega) (by omega) hs) (fun c21 hf => ?_)
      refine mg_sub (lv' := [(0, .ref v0), (2, .int r19)]) (by simp) ?_
      exact wX2_readsOperand_31 hE C hRm hd hde hn hk hw hf
def fX2_readsOperand (N : Nat) (eE : Nat → Int32 → mm_C → mR Unit) (v0 : Nat) (v1 : Int32) (c : mm_C) : mR Unit := bX2_readsOperand_0 N eE v0 v1 c
set_option maxRecDepth 100000 in
theorem wX2_readsOperand {Z : mm_Z} {d n N : Nat} {eE : Nat → Int32 → mm_C → mR Unit} {dE : Nat} (hE : hE_X2_readsExpr Z dE eE) (hd : 9 ≤ d) (hde : dE + 1 ≤ d) (hn : n + 1 < 1000000) {v0 : Nat} {v1 : Int32} {c : mm_C} (hs : (fX2_readsOperand N eE v0 v1 c).isSome = true) : mC Z qX2_readsOperand d 1 6 [.ref v0, .int v1] (n, c) (mP 0 ovU n (fX2_readsOperand N eE v0 v1 c)) := by
  refine mC_of gX2_readsOperand (by decide +kernel) (Nat.le_of_ble_eq_true rfl) fun X C hRm => ?_
  have hf := hO_mP 0 ovU n hs
  have hk : 0 + 1 ≤ 1 := Nat.le_of_ble_eq_true rfl
  have hw : 0 + 6 ≤ 6 := Nat.le_of_ble_eq_true rfl
  show mG _ _ _ _ _ _ _ _ (0, [(0, .ref v0), (1, .int v1)], [], (n, c))
  exact wX2_readsOperand_0 hE C hRm hd hde hn hk hw hf
def bX2_readsProduct_57 (N : Nat) (eE : Nat → Int32 → mm_C → mR Unit)  (k7 : Nat → Int32 → Int32 → mm_C → mR Unit) (v0 : Nat) (v1 : Int32) (v2 : Int32) (s0 : Int32) (c : mm_C) : mR Unit :=
  Option.bind (gR c v0 2 2) fun x1 => cV 10 x1 c (fX10_advances N x1 c) fun (_ : Unit) c2 => cV 2 v0 c2 (fX2_readsOperand N eE v0 v1 c2) fun (_ : Unit) c3 => Option.bind (gR c3 v0 2 3) fun x4 => Option.bind (gR c3 x4 3 8) fun x5 => cV 4 x5 c3 (fX4_emits N x5 s0 c3) fun (_ : Unit) c6 => k7 v0 v1 (v2 + 1) c6
set_option maxRecDepth 100000 in
theorem wX2_readsProduct_57 {Z : mm_Z} {X : mm_T} {k w mc ms d n N : Nat} {Q : mm_O → mm_H → Prop} {eE : Nat → Int32 → mm_C → mR Unit} {dE : Nat} (hE : hE_X2_readsExpr Z dE eE) (C : mm_Ok Z qX2_readsProduct X) (hRm : mt_R X = mm_rm d mc ms) (hd : 10 ≤ d) (hde : dE + 2 ≤ d) (hn : n + 1 < 1000000) (hk : k + 1 ≤ mc) (hw : w + 6 ≤ ms) {k7 : Nat → Int32 → Int32 → mm_C → mR Unit} (hk7 : ∀ (v0 : Nat) (v1 : Int32) (v2 : Int32) (c : mm_C), hO 0 ovU n (k7 v0 v1 v2 c) Q → mG Z qX2_readsProduct X k w mc ms Q (7, [(0, .ref v0), (1, .int v1), (2, .int v2)], [], (n, c))) {v0 : Nat} {v1 : Int32} {v2 : Int32} {s0 : Int32} {c : mm_C} (hf : hO 0 ovU n (bX2_readsProduct_57 N eE  k7 v0 v1 v2 s0 c) Q) : mG Z qX2_readsProduct X k w mc ms Q (57, [(0, .ref v0), (1, .int v1), (2, .int v2)], [.int s0], (n, c)) := by
  unfold bX2_readsProduct_57 at hf
  refine mg_istore_n (lv' := [(0, .ref v0), (1, .int v1), (2, .int v2), (3, .int s0)]) C rfl (Nat.le_of_ble_eq_true rfl) rfl ?_
  refine mg_aload_n C rfl rfl ?_
  refine mh_gR C rfl rfl rfl (by decide) hf (fun x1 hf => ?_)
  refine mh_cVU (M' := qX10_advances) C rfl rfl aX10_advances iX10_advances sX10_advances hRm (by omega) (by decide) (by omega) (by omega) rfl rfl rfl (Nat.le_of_ble_eq_true rfl) rfl hf (fun hs => wX10_advances (by omega) (by omega) hs) (fun c2 hf => ?_)
  refine mg_aload_n C rfl rfl ?_
  refine mg_iload_n C rfl rfl ?_
  refine mh_cVU (M' := qX2_readsOperand) C rfl rfl aX2_readsOperand iX2_readsOperand sX2_readsOperand hRm (by omega) (by decide) (by omega) (by omega) rfl rfl rfl (Nat.le_of_ble_eq_true rfl) rfl hf (fun hs => wX2_readsOperand hE (by omega) (by omega) (by omega) hs) (fun c3 hf => ?_)
  refine mg_aload_n C rfl rfl ?_
  refine mh_gR C rfl rfl rfl (by decide) hf (fun x4 hf => ?_)
  refine mh_gR C rfl rfl rfl (by decide) hf (fun x5 hf => ?_)
  refine mg_iload_n C rfl rfl ?_
  refine mh_cVU (M' := qX4_emits) C rfl rfl aX4_emits iX4_emits sX4_emits hRm (by omega) (by decide) (by omega) (by omega) rfl rfl rfl (Nat.le_of_ble_eq_true rfl) rfl hf (fun hs => wX4_emits (by omega) (by omega) hs) (fun c6 hf => ?_)
  refine mg_iinc (lv' := [(0, .ref v0), (1, .int v1), (2, .int (v2 + 1)), (3, .int s0)]) C rfl (Nat.le_of_ble_eq_true rfl) rfl (show _ + Int32.ofInt 1 = _ + 1 by congr 1) rfl ?_
  refine mg_goto C rfl ?_
  refine mg_sub (lv' := [(0, .ref v0), (1, .int v1), (2, .int (v2 + 1))]) (by simp) ?_
  exact hk7 _ _ _ _ hf
def bX2_readsProduct_38 (N : Nat) (eE : Nat → Int32 → mm_C → mR Unit)  (k7 : Nat → Int32 → Int32 → mm_C → mR Unit) (v0 : Nat) (v1 : Int32) (v2 : Int32) (c : mm_C) : mR Unit :=
  Option.bind (gR c v0 2 2) fun x1 => cV 10 x1 c (fX10_isSign N x1 (42 : Int32) c) fun r2 c3 => if r2 = 0 then (bX2_readsProduct_57 N eE  k7 v0 v1 v2 (-19 : Int32) c3) else (bX2_readsProduct_57 N eE  k7 v0 v1 v2 (-18 : Int32) c3)
set_option maxRecDepth 100000 in
theorem wX2_readsProduct_38 {Z : mm_Z} {X : mm_T} {k w mc ms d n N : Nat} {Q : mm_O → mm_H → Prop} {eE : Nat → Int32 → mm_C → mR Unit} {dE : Nat} (hE : hE_X2_readsExpr Z dE eE) (C : mm_Ok Z qX2_readsProduct X) (hRm : mt_R X = mm_rm d mc ms) (hd : 10 ≤ d) (hde : dE + 2 ≤ d) (hn : n + 1 < 1000000) (hk : k + 1 ≤ mc) (hw : w + 6 ≤ ms) {k7 : Nat → Int32 → Int32 → mm_C → mR Unit} (hk7 : ∀ (v0 : Nat) (v1 : Int32) (v2 : Int32) (c : mm_C), hO 0 ovU n (k7 v0 v1 v2 c) Q → mG Z qX2_readsProduct X k w mc ms Q (7, [(0, .ref v0), (1, .int v1), (2, .int v2)], [], (n, c))) {v0 : Nat} {v1 : Int32} {v2 : Int32} {c : mm_C} (hf : hO 0 ovU n (bX2_readsProduct_38 N eE  k7 v0 v1 v2 c) Q) : mG Z qX2_readsProduct X k w mc ms Q (38, [(0, .ref v0), (1, .int v1), (2, .int v2)], [], (n, c)) := by
  unfold bX2_readsProduct_38 at hf
  refine mg_aload_n C rfl rfl ?_
  refine mh_gR C rfl rfl rfl (by decide) hf (fun x1 hf => ?_)
  refine mg_bipush (v := 42) C rfl (by decide) ?_
  refine mh_cVI (M' := qX10_isSign) C rfl rfl aX10_isSign iX10_isSign sX10_isSign hRm (by omega) (by decide) (by omega) (by omega) rfl rfl rfl (Nat.le_of_ble_eq_true rfl) rfl hf (fun hs => wX10_isSign (by omega) (by omega) hs) (fun r2 c3 hf => ?_)
  refine mh_if_eq C rfl hf (fun e_47 hf => ?_) (fun e_47 hf => ?_)
  · refine mg_bipush (v := (-19)) C rfl (by decide) ?_
    exact wX2_readsProduct_57 hE C hRm hd hde hn hk hw hk7 hf
  · refine mg_bipush (v := (-18)) C rfl (by decide) ?_
    refine mg_goto C rfl ?_
    exact wX2_readsProduct_57 hE C hRm hd hde hn hk hw hk7 hf
def bX2_readsProduct_7 (N : Nat) (eE : Nat → Int32 → mm_C → mR Unit)  (k7 : Nat → Int32 → Int32 → mm_C → mR Unit) (v0 : Nat) (v1 : Int32) (v2 : Int32) (c : mm_C) : mR Unit :=
  if (700 : Int32) ≤ v2 then (some (.inl (), c)) else (Option.bind (gR c v0 2 2) fun x1 => cV 10 x1 c (fX10_isSign N x1 (42 : Int32) c) fun r2 c3 => if ¬ r2 = 0 then (bX2_readsProduct_38 N eE  k7 v0 v1 v2 c3) else (Option.bind (gR c3 v0 2 2) fun x4 => cV 10 x4 c3 (fX10_isSign N x4 (47 : Int32) c3) fun r5 c6 => if r5 = 0 then (some (.inl (), c6)) else (bX2_readsProduct_38 N eE  k7 v0 v1 v2 c6)))
set_option maxRecDepth 100000 in
theorem wX2_readsProduct_7 {Z : mm_Z} {X : mm_T} {k w mc ms d n N : Nat} {Q : mm_O → mm_H → Prop} {eE : Nat → Int32 → mm_C → mR Unit} {dE : Nat} (hE : hE_X2_readsExpr Z dE eE) (C : mm_Ok Z qX2_readsProduct X) (hRm : mt_R X = mm_rm d mc ms) (hd : 10 ≤ d) (hde : dE + 2 ≤ d) (hn : n + 1 < 1000000) (hk : k + 1 ≤ mc) (hw : w + 6 ≤ ms) {k7 : Nat → Int32 → Int32 → mm_C → mR Unit} (hk7 : ∀ (v0 : Nat) (v1 : Int32) (v2 : Int32) (c : mm_C), hO 0 ovU n (k7 v0 v1 v2 c) Q → mG Z qX2_readsProduct X k w mc ms Q (7, [(0, .ref v0), (1, .int v1), (2, .int v2)], [], (n, c))) {v0 : Nat} {v1 : Int32} {v2 : Int32} {c : mm_C} (hf : hO 0 ovU n (bX2_readsProduct_7 N eE  k7 v0 v1 v2 c) Q) : mG Z qX2_readsProduct X k w mc ms Q (7, [(0, .ref v0), (1, .int v1), (2, .int v2)], [], (n, c)) := by
  unfold bX2_readsProduct_7 at hf
  refine mg_iload_n C rfl rfl ?_
  refine mg_sipush (v := 700) C rfl (by decide) ?_
  refine mh_icmp_ge C rfl hf (fun e_11 hf => ?_) (fun e_11 hf => ?_)
  · exact mh_return C rfl (by omega) (by omega) rfl hf
  · refine mg_aload_n C rfl rfl ?_
    refine mh_gR C rfl rfl rfl (by decide) hf (fun x1 hf => ?_)
    refine mg_bipush (v := 42) C rfl (by decide) ?_
    refine mh_cVI (M' := qX10_isSign) C rfl rfl aX10_isSign iX10_isSign sX10_isSign hRm (by omega) (by decide) (by omega) (by omega) rfl rfl rfl (Nat.le_of_ble_eq_true rfl) rfl hf (fun hs => wX10_isSign (by omega) (by omega) hs) (fun r2 c3 hf => ?_)
    refine mh_if_ne C rfl hf (fun e_23 hf => ?_) (fun e_23 hf => ?_)
    · exact wX2_readsProduct_38 hE C hRm hd hde hn hk hw hk7 hf
    · refine mg_aload_n C rfl rfl ?_
      refine mh_gR C rfl rfl rfl (by decide) hf (fun x4 hf => ?_)
      refine mg_bipush (v := 47) C rfl (by decide) ?_
      refine mh_cVI (M' := qX10_isSign) C rfl rfl aX10_isSign iX10_isSign sX10_isSign hRm (by omega) (by decide) (by omega) (by omega) rfl rfl rfl (Nat.le_of_ble_eq_true rfl) rfl hf (fun hs => wX10_isSign (by omega) (by omega) hs) (fun r5 c6 hf => ?_)
      refine mh_if_eq C rfl hf (fun e_35 hf => ?_) (fun e_35 hf => ?_)
      · exact mh_return C rfl (by omega) (by omega) rfl hf
      · exact wX2_readsProduct_38 hE C hRm hd hde hn hk hw hk7 hf
def lX2_readsProduct_7 (N : Nat) (eE : Nat → Int32 → mm_C → mR Unit)  : Nat → Nat → Int32 → Int32 → mm_C → mR Unit
  | 0, _, _, _, _ => none
  | m + 1, v0, v1, v2, c => bX2_readsProduct_7 N eE  (lX2_readsProduct_7 N eE  m) v0 v1 v2 c
theorem WX2_readsProduct_7 {Z : mm_Z} {X : mm_T} {k w mc ms d n N : Nat} {Q : mm_O → mm_H → Prop} {eE : Nat → Int32 → mm_C → mR Unit} {dE : Nat} (hE : hE_X2_readsExpr Z dE eE) (C : mm_Ok Z qX2_readsProduct X) (hRm : mt_R X = mm_rm d mc ms) (hd : 10 ≤ d) (hde : dE + 2 ≤ d) (hn : n + 1 < 1000000) (hk : k + 1 ≤ mc) (hw : w + 6 ≤ ms) : ∀ (m : Nat) {v0 : Nat} {v1 : Int32} {v2 : Int32} {c : mm_C} (hf : hO 0 ovU n (lX2_readsProduct_7 N eE  m v0 v1 v2 c) Q), mG Z qX2_readsProduct X k w mc ms Q (7, [(0, .ref v0), (1, .int v1), (2, .int v2)], [], (n, c)) := by
  intro m
  induction m with
  | zero => intro v0 v1 v2 c hf; exact absurd hf hO_none
  | succ m ih => intro v0 v1 v2 c hf; exact wX2_readsProduct_7 hE C hRm hd hde hn hk hw (fun v0 v1 v2 c hf => ih hf) hf
def bX2_readsProduct_0 (N : Nat) (eE : Nat → Int32 → mm_C → mR Unit)  (v0 : Nat) (v1 : Int32) (c : mm_C) : mR Unit :=
  cV 2 v0 c (fX2_readsOperand N eE v0 v1 c) fun (_ : Unit) c1 => lX2_readsProduct_7 N eE  N v0 v1 (0 : Int32) c1
set_option maxRecDepth 100000 in
theorem wX2_readsProduct_0 {Z : mm_Z} {X : mm_T} {k w mc ms d n N : Nat} {Q : mm_O → mm_H → Prop} {eE : Nat → Int32 → mm_C → mR Unit} {dE : Nat} (hE : hE_X2_readsExpr Z dE eE) (C : mm_Ok Z qX2_readsProduct X) (hRm : mt_R X = mm_rm d mc ms) (hd : 10 ≤ d) (hde : dE + 2 ≤ d) (hn : n + 1 < 1000000) (hk : k + 1 ≤ mc) (hw : w + 6 ≤ ms) {v0 : Nat} {v1 : Int32} {c : mm_C} (hf : hO 0 ovU n (bX2_readsProduct_0 N eE  v0 v1 c) Q) : mG Z qX2_readsProduct X k w mc ms Q (0, [(0, .ref v0), (1, .int v1)], [], (n, c)) := by
  unfold bX2_readsProduct_0 at hf
  refine mg_aload_n C rfl rfl ?_
  refine mg_iload_n C rfl rfl ?_
  refine mh_cVU (M' := qX2_readsOperand) C rfl rfl aX2_readsOperand iX2_readsOperand sX2_readsOperand hRm (by omega) (by decide) (by omega) (by omega) rfl rfl rfl (Nat.le_of_ble_eq_true rfl) rfl hf (fun hs => wX2_readsOperand hE (by omega) (by omega) (by omega) hs) (fun c1 hf => ?_)
  refine mg_iconst (v := 0) C rfl (by decide) ?_
  refine mg_istore_n (lv' := [(0, .ref v0), (1, .int v1), (2, .int (0 : Int32))]) C rfl (Nat.le_of_ble_eq_true rfl) rfl ?_
  exact WX2_readsProduct_7 hE C hRm hd hde hn hk hw N hf
def fX2_readsProduct (N : Nat) (eE : Nat → Int32 → mm_C → mR Unit) (v0 : Nat) (v1 : Int32) (c : mm_C) : mR Unit := bX2_readsProduct_0 N eE v0 v1 c
set_option maxRecDepth 100000 in
theorem wX2_readsProduct {Z : mm_Z} {d n N : Nat} {eE : Nat → Int32 → mm_C → mR Unit} {dE : Nat} (hE : hE_X2_readsExpr Z dE eE) (hd : 10 ≤ d) (hde : dE + 2 ≤ d) (hn : n + 1 < 1000000) {v0 : Nat} {v1 : Int32} {c : mm_C} (hs : (fX2_readsProduct N eE v0 v1 c).isSome = true) : mC Z qX2_readsProduct d 1 6 [.ref v0, .int v1] (n, c) (mP 0 ovU n (fX2_readsProduct N eE v0 v1 c)) := by
  refine mC_of gX2_readsProduct (by decide +kernel) (Nat.le_of_ble_eq_true rfl) fun X C hRm => ?_
  have hf := hO_mP 0 ovU n hs
  have hk : 0 + 1 ≤ 1 := Nat.le_of_ble_eq_true rfl
  have hw : 0 + 6 ≤ 6 := Nat.le_of_ble_eq_true rfl
  show mG _ _ _ _ _ _ _ _ (0, [(0, .ref v0), (1, .int v1)], [], (n, c))
  exact wX2_readsProduct_0 hE C hRm hd hde hn hk hw hf
def bX2_readsSum_57 (N : Nat) (eE : Nat → Int32 → mm_C → mR Unit)  (k7 : Nat → Int32 → Int32 → mm_C → mR Unit) (v0 : Nat) (v1 : Int32) (v2 : Int32) (s0 : Int32) (c : mm_C) : mR Unit :=
  Option.bind (gR c v0 2 2) fun x1 => cV 10 x1 c (fX10_advances N x1 c) fun (_ : Unit) c2 => cV 2 v0 c2 (fX2_readsProduct N eE v0 v1 c2) fun (_ : Unit) c3 => Option.bind (gR c3 v0 2 3) fun x4 => Option.bind (gR c3 x4 3 8) fun x5 => cV 4 x5 c3 (fX4_emits N x5 s0 c3) fun (_ : Unit) c6 => k7 v0 v1 (v2 + 1) c6
set_option maxRecDepth 100000 in
theorem wX2_readsSum_57 {Z : mm_Z} {X : mm_T} {k w mc ms d n N : Nat} {Q : mm_O → mm_H → Prop} {eE : Nat → Int32 → mm_C → mR Unit} {dE : Nat} (hE : hE_X2_readsExpr Z dE eE) (C : mm_Ok Z qX2_readsSum X) (hRm : mt_R X = mm_rm d mc ms) (hd : 11 ≤ d) (hde : dE + 3 ≤ d) (hn : n + 1 < 1000000) (hk : k + 1 ≤ mc) (hw : w + 6 ≤ ms) {k7 : Nat → Int32 → Int32 → mm_C → mR Unit} (hk7 : ∀ (v0 : Nat) (v1 : Int32) (v2 : Int32) (c : mm_C), hO 0 ovU n (k7 v0 v1 v2 c) Q → mG Z qX2_readsSum X k w mc ms Q (7, [(0, .ref v0), (1, .int v1), (2, .int v2)], [], (n, c))) {v0 : Nat} {v1 : Int32} {v2 : Int32} {s0 : Int32} {c : mm_C} (hf : hO 0 ovU n (bX2_readsSum_57 N eE  k7 v0 v1 v2 s0 c) Q) : mG Z qX2_readsSum X k w mc ms Q (57, [(0, .ref v0), (1, .int v1), (2, .int v2)], [.int s0], (n, c)) := by
  unfold bX2_readsSum_57 at hf
  refine mg_istore_n (lv' := [(0, .ref v0), (1, .int v1), (2, .int v2), (3, .int s0)]) C rfl (Nat.le_of_ble_eq_true rfl) rfl ?_
  refine mg_aload_n C rfl rfl ?_
  refine mh_gR C rfl rfl rfl (by decide) hf (fun x1 hf => ?_)
  refine mh_cVU (M' := qX10_advances) C rfl rfl aX10_advances iX10_advances sX10_advances hRm (by omega) (by decide) (by omega) (by omega) rfl rfl rfl (Nat.le_of_ble_eq_true rfl) rfl hf (fun hs => wX10_advances (by omega) (by omega) hs) (fun c2 hf => ?_)
  refine mg_aload_n C rfl rfl ?_
  refine mg_iload_n C rfl rfl ?_
  refine mh_cVU (M' := qX2_readsProduct) C rfl rfl aX2_readsProduct iX2_readsProduct sX2_readsProduct hRm (by omega) (by decide) (by omega) (by omega) rfl rfl rfl (Nat.le_of_ble_eq_true rfl) rfl hf (fun hs => wX2_readsProduct hE (by omega) (by omega) (by omega) hs) (fun c3 hf => ?_)
  refine mg_aload_n C rfl rfl ?_
  refine mh_gR C rfl rfl rfl (by decide) hf (fun x4 hf => ?_)
  refine mh_gR C rfl rfl rfl (by decide) hf (fun x5 hf => ?_)
  refine mg_iload_n C rfl rfl ?_
  refine mh_cVU (M' := qX4_emits) C rfl rfl aX4_emits iX4_emits sX4_emits hRm (by omega) (by decide) (by omega) (by omega) rfl rfl rfl (Nat.le_of_ble_eq_true rfl) rfl hf (fun hs => wX4_emits (by omega) (by omega) hs) (fun c6 hf => ?_)
  refine mg_iinc (lv' := [(0, .ref v0), (1, .int v1), (2, .int (v2 + 1)), (3, .int s0)]) C rfl (Nat.le_of_ble_eq_true rfl) rfl (show _ + Int32.ofInt 1 = _ + 1 by congr 1) rfl ?_
  refine mg_goto C rfl ?_
  refine mg_sub (lv' := [(0, .ref v0), (1, .int v1), (2, .int (v2 + 1))]) (by simp) ?_
  exact hk7 _ _ _ _ hf
def bX2_readsSum_38 (N : Nat) (eE : Nat → Int32 → mm_C → mR Unit)  (k7 : Nat → Int32 → Int32 → mm_C → mR Unit) (v0 : Nat) (v1 : Int32) (v2 : Int32) (c : mm_C) : mR Unit :=
  Option.bind (gR c v0 2 2) fun x1 => cV 10 x1 c (fX10_isSign N x1 (43 : Int32) c) fun r2 c3 => if r2 = 0 then (bX2_readsSum_57 N eE  k7 v0 v1 v2 (-17 : Int32) c3) else (bX2_readsSum_57 N eE  k7 v0 v1 v2 (-16 : Int32) c3)
set_option maxRecDepth 100000 in
theorem wX2_readsSum_38 {Z : mm_Z} {X : mm_T} {k w mc ms d n N : Nat} {Q : mm_O → mm_H → Prop} {eE : Nat → Int32 → mm_C → mR Unit} {dE : Nat} (hE : hE_X2_readsExpr Z dE eE) (C : mm_Ok Z qX2_readsSum X) (hRm : mt_R X = mm_rm d mc ms) (hd : 11 ≤ d) (hde : dE + 3 ≤ d) (hn : n + 1 < 1000000) (hk : k + 1 ≤ mc) (hw : w + 6 ≤ ms) {k7 : Nat → Int32 → Int32 → mm_C → mR Unit} (hk7 : ∀ (v0 : Nat) (v1 : Int32) (v2 : Int32) (c : mm_C), hO 0 ovU n (k7 v0 v1 v2 c) Q → mG Z qX2_readsSum X k w mc ms Q (7, [(0, .ref v0), (1, .int v1), (2, .int v2)], [], (n, c))) {v0 : Nat} {v1 : Int32} {v2 : Int32} {c : mm_C} (hf : hO 0 ovU n (bX2_readsSum_38 N eE  k7 v0 v1 v2 c) Q) : mG Z qX2_readsSum X k w mc ms Q (38, [(0, .ref v0), (1, .int v1), (2, .int v2)], [], (n, c)) := by
  unfold bX2_readsSum_38 at hf
  refine mg_aload_n C rfl rfl ?_
  refine mh_gR C rfl rfl rfl (by decide) hf (fun x1 hf => ?_)
  refine mg_bipush (v := 43) C rfl (by decide) ?_
  refine mh_cVI (M' := qX10_isSign) C rfl rfl aX10_isSign iX10_isSign sX10_isSign hRm (by omega) (by decide) (by omega) (by omega) rfl rfl rfl (Nat.le_of_ble_eq_true rfl) rfl hf (fun hs => wX10_isSign (by omega) (by omega) hs) (fun r2 c3 hf => ?_)
  refine mh_if_eq C rfl hf (fun e_47 hf => ?_) (fun e_47 hf => ?_)
  · refine mg_bipush (v := (-17)) C rfl (by decide) ?_
    exact wX2_readsSum_57 hE C hRm hd hde hn hk hw hk7 hf
  · refine mg_bipush (v := (-16)) C rfl (by decide) ?_
    refine mg_goto C rfl ?_
    exact wX2_readsSum_57 hE C hRm hd hde hn hk hw hk7 hf
def bX2_readsSum_7 (N : Nat) (eE : Nat → Int32 → mm_C → mR Unit)  (k7 : Nat → Int32 → Int32 → mm_C → mR Unit) (v0 : Nat) (v1 : Int32) (v2 : Int32) (c : mm_C) : mR Unit :=
  if (700 : Int32) ≤ v2 then (some (.inl (), c)) else (Option.bind (gR c v0 2 2) fun x1 => cV 10 x1 c (fX10_isSign N x1 (43 : Int32) c) fun r2 c3 => if ¬ r2 = 0 then (bX2_readsSum_38 N eE  k7 v0 v1 v2 c3) else (Option.bind (gR c3 v0 2 2) fun x4 => cV 10 x4 c3 (fX10_isSign N x4 (45 : Int32) c3) fun r5 c6 => if r5 = 0 then (some (.inl (), c6)) else (bX2_readsSum_38 N eE  k7 v0 v1 v2 c6)))
set_option maxRecDepth 100000 in
theorem wX2_readsSum_7 {Z : mm_Z} {X : mm_T} {k w mc ms d n N : Nat} {Q : mm_O → mm_H → Prop} {eE : Nat → Int32 → mm_C → mR Unit} {dE : Nat} (hE : hE_X2_readsExpr Z dE eE) (C : mm_Ok Z qX2_readsSum X) (hRm : mt_R X = mm_rm d mc ms) (hd : 11 ≤ d) (hde : dE + 3 ≤ d) (hn : n + 1 < 1000000) (hk : k + 1 ≤ mc) (hw : w + 6 ≤ ms) {k7 : Nat → Int32 → Int32 → mm_C → mR Unit} (hk7 : ∀ (v0 : Nat) (v1 : Int32) (v2 : Int32) (c : mm_C), hO 0 ovU n (k7 v0 v1 v2 c) Q → mG Z qX2_readsSum X k w mc ms Q (7, [(0, .ref v0), (1, .int v1), (2, .int v2)], [], (n, c))) {v0 : Nat} {v1 : Int32} {v2 : Int32} {c : mm_C} (hf : hO 0 ovU n (bX2_readsSum_7 N eE  k7 v0 v1 v2 c) Q) : mG Z qX2_readsSum X k w mc ms Q (7, [(0, .ref v0), (1, .int v1), (2, .int v2)], [], (n, c)) := by
  unfold bX2_readsSum_7 at hf
  refine mg_iload_n C rfl rfl ?_
  refine mg_sipush (v := 700) C rfl (by decide) ?_
  refine mh_icmp_ge C rfl hf (fun e_11 hf => ?_) (fun e_11 hf => ?_)
  · exact mh_return C rfl (by omega) (by omega) rfl hf
  · refine mg_aload_n C rfl rfl ?_
    refine mh_gR C rfl rfl rfl (by decide) hf (fun x1 hf => ?_)
    refine mg_bipush (v := 43) C rfl (by decide) ?_
    refine mh_cVI (M' := qX10_isSign) C rfl rfl aX10_isSign iX10_isSign sX10_isSign hRm (by omega) (by decide) (by omega) (by omega) rfl rfl rfl (Nat.le_of_ble_eq_true rfl) rfl hf (fun hs => wX10_isSign (by omega) (by omega) hs) (fun r2 c3 hf => ?_)
    refine mh_if_ne C rfl hf (fun e_23 hf => ?_) (fun e_23 hf => ?_)
    · exact wX2_readsSum_38 hE C hRm hd hde hn hk hw hk7 hf
    · refine mg_aload_n C rfl rfl ?_
      refine mh_gR C rfl rfl rfl (by decide) hf (fun x4 hf => ?_)
      refine mg_bipush (v := 45) C rfl (by decide) ?_
      refine mh_cVI (M' := qX10_isSign) C rfl rfl aX10_isSign iX10_isSign sX10_isSign hRm (by omega) (by decide) (by omega) (by omega) rfl rfl rfl (Nat.le_of_ble_eq_true rfl) rfl hf (fun hs => wX10_isSign (by omega) (by omega) hs) (fun r5 c6 hf => ?_)
      refine mh_if_eq C rfl hf (fun e_35 hf => ?_) (fun e_35 hf => ?_)
      · exact mh_return C rfl (by omega) (by omega) rfl hf
      · exact wX2_readsSum_38 hE C hRm hd hde hn hk hw hk7 hf
def lX2_readsSum_7 (N : Nat) (eE : Nat → Int32 → mm_C → mR Unit)  : Nat → Nat → Int32 → Int32 → mm_C → mR Unit
  | 0, _, _, _, _ => none
  | m + 1, v0, v1, v2, c => bX2_readsSum_7 N eE  (lX2_readsSum_7 N eE  m) v0 v1 v2 c
theorem WX2_readsSum_7 {Z : mm_Z} {X : mm_T} {k w mc ms d n N : Nat} {Q : mm_O → mm_H → Prop} {eE : Nat → Int32 → mm_C → mR Unit} {dE : Nat} (hE : hE_X2_readsExpr Z dE eE) (C : mm_Ok Z qX2_readsSum X) (hRm : mt_R X = mm_rm d mc ms) (hd : 11 ≤ d) (hde : dE + 3 ≤ d) (hn : n + 1 < 1000000) (hk : k + 1 ≤ mc) (hw : w + 6 ≤ ms) : ∀ (m : Nat) {v0 : Nat} {v1 : Int32} {v2 : Int32} {c : mm_C} (hf : hO 0 ovU n (lX2_readsSum_7 N eE  m v0 v1 v2 c) Q), mG Z qX2_readsSum X k w mc ms Q (7, [(0, .ref v0), (1, .int v1), (2, .int v2)], [], (n, c)) := by
  intro m
  induction m with
  | zero => intro v0 v1 v2 c hf; exact absurd hf hO_none
  | succ m ih => intro v0 v1 v2 c hf; exact wX2_readsSum_7 hE C hRm hd hde hn hk hw (fun v0 v1 v2 c hf => ih hf) hf
def bX2_readsSum_0 (N : Nat) (eE : Nat → Int32 → mm_C → mR Unit)  (v0 : Nat) (v1 : Int32) (c : mm_C) : mR Unit :=
  cV 2 v0 c (fX2_readsProduct N eE v0 v1 c) fun (_ : Unit) c1 => lX2_readsSum_7 N eE  N v0 v1 (0 : Int32) c1
set_option maxRecDepth 100000 in
theorem wX2_readsSum_0 {Z : mm_Z} {X : mm_T} {k w mc ms d n N : Nat} {Q : mm_O → mm_H → Prop} {eE : Nat → Int32 → mm_C → mR Unit} {dE : Nat} (hE : hE_X2_readsExpr Z dE eE) (C : mm_Ok Z qX2_readsSum X) (hRm : mt_R X = mm_rm d mc ms) (hd : 11 ≤ d) (hde : dE + 3 ≤ d) (hn : n + 1 < 1000000) (hk : k + 1 ≤ mc) (hw : w + 6 ≤ ms) {v0 : Nat} {v1 : Int32} {c : mm_C} (hf : hO 0 ovU n (bX2_readsSum_0 N eE  v0 v1 c) Q) : mG Z qX2_readsSum X k w mc ms Q (0, [(0, .ref v0), (1, .int v1)], [], (n, c)) := by
  unfold bX2_readsSum_0 at hf
  refine mg_aload_n C rfl rfl ?_
  refine mg_iload_n C rfl rfl ?_
  refine mh_cVU (M' := qX2_readsProduct) C rfl rfl aX2_readsProduct iX2_readsProduct sX2_readsProduct hRm (by omega) (by decide) (by omega) (by omega) rfl rfl rfl (Nat.le_of_ble_eq_true rfl) rfl hf (fun hs => wX2_readsProduct hE (by omega) (by omega) (by omega) hs) (fun c1 hf => ?_)
  refine mg_iconst (v := 0) C rfl (by decide) ?_
  refine mg_istore_n (lv' := [(0, .ref v0), (1, .int v1), (2, .int (0 : Int32))]) C rfl (Nat.le_of_ble_eq_true rfl) rfl ?_
  exact WX2_readsSum_7 hE C hRm hd hde hn hk hw N hf
def fX2_readsSum (N : Nat) (eE : Nat → Int32 → mm_C → mR Unit) (v0 : Nat) (v1 : Int32) (c : mm_C) : mR Unit := bX2_readsSum_0 N eE v0 v1 c
set_option maxRecDepth 100000 in
theorem wX2_readsSum {Z : mm_Z} {d n N : Nat} {eE : Nat → Int32 → mm_C → mR Unit} {dE : Nat} (hE : hE_X2_readsExpr Z dE eE) (hd : 11 ≤ d) (hde : dE + 3 ≤ d) (hn : n + 1 < 1000000) {v0 : Nat} {v1 : Int32} {c : mm_C} (hs : (fX2_readsSum N eE v0 v1 c).isSome = true) : mC Z qX2_readsSum d 1 6 [.ref v0, .int v1] (n, c) (mP 0 ovU n (fX2_readsSum N eE v0 v1 c)) := by
  refine mC_of gX2_readsSum (by decide +kernel) (Nat.le_of_ble_eq_true rfl) fun X C hRm => ?_
  have hf := hO_mP 0 ovU n hs
  have hk : 0 + 1 ≤ 1 := Nat.le_of_ble_eq_true rfl
  have hw : 0 + 6 ≤ 6 := Nat.le_of_ble_eq_true rfl
  show mG _ _ _ _ _ _ _ _ (0, [(0, .ref v0), (1, .int v1)], [], (n, c))
  exact wX2_readsSum_0 hE C hRm hd hde hn hk hw hf
def bX2_readsTest_61 (N : Nat) (eE : Nat → Int32 → mm_C → mR Unit)  (s0 : Nat) (s1 : Int32) (c : mm_C) : mR Unit :=
  cV 4 s0 c (fX4_emits N s0 s1 c) fun (_ : Unit) c1 => some (.inl (), c1)
set_option maxRecDepth 100000 in
theorem wX2_readsTest_61 {Z : mm_Z} {X : mm_T} {k w mc ms d n N : Nat} {Q : mm_O → mm_H → Prop} {eE : Nat → Int32 → mm_C → mR Unit} {dE : Nat} (hE : hE_X2_readsExpr Z dE eE) (C : mm_Ok Z qX2_readsTest X) (hRm : mt_R X = mm_rm d mc ms) (hd : 12 ≤ d) (hde : dE + 4 ≤ d) (hn : n + 1 < 1000000) (hk : k + 1 ≤ mc) (hw : w + 6 ≤ ms) {s0 : Nat} {s1 : Int32} {c : mm_C} (hf : hO 0 ovU n (bX2_readsTest_61 N eE  s0 s1 c) Q) : mG Z qX2_readsTest X k w mc ms Q (61, [], [.int s1, .ref s0], (n, c)) := by
  unfold bX2_readsTest_61 at hf
  refine mh_cVU (M' := qX4_emits) C rfl rfl aX4_emits iX4_emits sX4_emits hRm (by omega) (by decide) (by omega) (by omega) rfl rfl rfl (Nat.le_of_ble_eq_true rfl) rfl hf (fun hs => wX4_emits (by omega) (by omega) hs) (fun c1 hf => ?_)
  exact mh_return C rfl (by omega) (by omega) rfl hf
def bX2_readsTest_31 (N : Nat) (eE : Nat → Int32 → mm_C → mR Unit)  (v0 : Nat) (v1 : Int32) (v2 : Int32) (c : mm_C) : mR Unit :=
  Option.bind (gR c v0 2 2) fun x1 => cV 10 x1 c (fX10_advances N x1 c) fun (_ : Unit) c2 => cV 2 v0 c2 (fX2_readsSum N eE v0 v1 c2) fun (_ : Unit) c3 => Option.bind (gR c3 v0 2 3) fun x4 => Option.bind (gR c3 x4 3 8) fun x5 => if v2 = 0 then (bX2_readsTest_61 N eE  x5 (-15 : Int32) c3) else (bX2_readsTest_61 N eE  x5 (-14 : Int32) c3)
set_option maxRecDepth 100000 in
theorem wX2_readsTest_31 {Z : mm_Z} {X : mm_T} {k w mc ms d n N : Nat} {Q : mm_O → mm_H → Prop} {eE : Nat → Int32 → mm_C → mR Unit} {dE : Nat} (hE : hE_X2_readsExpr Z dE eE) (C : mm_Ok Z qX2_readsTest X) (hRm : mt_R X = mm_rm d mc ms) (hd : 12 ≤ d) (hde : dE + 4 ≤ d) (hn : n + 1 < 1000000) (hk : k + 1 ≤ mc) (hw : w + 6 ≤ ms) {v0 : Nat} {v1 : Int32} {v2 : Int32} {c : mm_C} (hf : hO 0 ovU n (bX2_readsTest_31 N eE  v0 v1 v2 c) Q) : mG Z qX2_readsTest X k w mc ms Q (31, [(0, .ref v0), (1, .int v1), (2, .int v2)], [], (n, c)) := by
  unfold bX2_readsTest_31 at hf
  refine mg_aload_n C rfl rfl ?_
  refine mh_gR C rfl rfl rfl (by decide) hf (fun x1 hf => ?_)
  refine mh_cVU (M' := qX10_advances) C rfl rfl aX10_advances iX10_advances sX10_advances hRm (by omega) (by decide) (by omega) (by omega) rfl rfl rfl (Nat.le_of_ble_eq_true rfl) rfl hf (fun hs => wX10_advances (by omega) (by omega) hs) (fun c2 hf => ?_)
  refine mg_aload_n C rfl rfl ?_
  refine mg_iload_n C rfl rfl ?_
  refine mh_cVU (M' := qX2_readsSum) C rfl rfl aX2_readsSum iX2_readsSum sX2_readsSum hRm (by omega) (by decide) (by omega) (by omega) rfl rfl rfl (Nat.le_of_ble_eq_true rfl) rfl hf (fun hs => wX2_readsSum hE (by omega) (by omega) (by omega) hs) (fun c3 hf => ?_)
  refine mg_aload_n C rfl rfl ?_
  refine mh_gR C rfl rfl rfl (by decide) hf (fun x4 hf => ?_)
  refine mh_gR C rfl rfl rfl (by decide) hf (fun x5 hf => ?_)
  refine mg_iload_n C rfl rfl ?_
  refine mh_if_eq C rfl hf (fun e_51 hf => ?_) (fun e_51 hf => ?_)
  · refine mg_bipush (v := (-15)) C rfl (by decide) ?_
    refine mg_sub (lv' := []) (by simp) ?_
    exact wX2_readsTest_61 hE C hRm hd hde hn hk hw hf
  · refine mg_bipush (v := (-14)) C rfl (by decide) ?_
    refine mg_goto C rfl ?_
    refine mg_sub (lv' := []) (by simp) ?_
    exact wX2_readsTest_61 hE C hRm hd hde hn hk hw hf
def bX2_readsTest_0 (N : Nat) (eE : Nat → Int32 → mm_C → mR Unit)  (v0 : Nat) (v1 : Int32) (c : mm_C) : mR Unit :=
  cV 2 v0 c (fX2_readsSum N eE v0 v1 c) fun (_ : Unit) c1 => Option.bind (gR c1 v0 2 2) fun x2 => cV 10 x2 c1 (fX10_isSign N x2 (60 : Int32) c1) fun r3 c4 => if ¬ r3 = 0 then (bX2_readsTest_31 N eE  v0 v1 r3 c4) else (Option.bind (gR c4 v0 2 2) fun x5 => cV 10 x5 c4 (fX10_isSign N x5 (61 : Int32) c4) fun r6 c7 => if r6 = 0 then (some (.inl (), c7)) else (bX2_readsTest_31 N eE  v0 v1 r3 c7))
set_option maxRecDepth 100000 in
theorem wX2_readsTest_0 {Z : mm_Z} {X : mm_T} {k w mc ms d n N : Nat} {Q : mm_O → mm_H → Prop} {eE : Nat → Int32 → mm_C → mR Unit} {dE : Nat} (hE : hE_X2_readsExpr Z dE eE) (C : mm_Ok Z qX2_readsTest X) (hRm : mt_R X = mm_rm d mc ms) (hd : 12 ≤ d) (hde : dE + 4 ≤ d) (hn : n + 1 < 1000000) (hk : k + 1 ≤ mc) (hw : w + 6 ≤ ms) {v0 : Nat} {v1 : Int32} {c : mm_C} (hf : hO 0 ovU n (bX2_readsTest_0 N eE  v0 v1 c) Q) : mG Z qX2_readsTest X k w mc ms Q (0, [(0, .ref v0), (1, .int v1)], [], (n, c)) := by
  unfold bX2_readsTest_0 at hf
  refine mg_aload_n C rfl rfl ?_
  refine mg_iload_n C rfl rfl ?_
  refine mh_cVU (M' := qX2_readsSum) C rfl rfl aX2_readsSum iX2_readsSum sX2_readsSum hRm (by omega) (by decide) (by omega) (by omega) rfl rfl rfl (Nat.le_of_ble_eq_true rfl) rfl hf (fun hs => wX2_readsSum hE (by omega) (by omega) (by omega) hs) (fun c1 hf => ?_)
  refine mg_aload_n C rfl rfl ?_
  refine mh_gR C rfl rfl rfl (by decide) hf (fun x2 hf => ?_)
  refine mg_bipush (v := 60) C rfl (by decide) ?_
  refine mh_cVI (M' := qX10_isSign) C rfl rfl aX10_isSign iX10_isSign sX10_isSign hRm (by omega) (by decide) (by omega) (by omega) rfl rfl rfl (Nat.le_of_ble_eq_true rfl) rfl hf (fun hs => wX10_isSign (by omega) (by omega) hs) (fun r3 c4 hf => ?_)
  refine mg_istore_n (lv' := [(0, .ref v0), (1, .int v1), (2, .int r3)]) C rfl (Nat.le_of_ble_eq_true rfl) rfl ?_
  refine mg_iload_n C rfl rfl ?_
  refine mh_if_ne C rfl hf (fun e_16 hf => ?_) (fun e_16 hf => ?_)
  · exact wX2_readsTest_31 hE C hRm hd hde hn hk hw hf
  · refine mg_aload_n C rfl rfl ?_
    refine mh_gR C rfl rfl rfl (by decide) hf (fun x5 hf => ?_)
    refine mg_bipush (v := 61) C rfl (by decide) ?_
    refine mh_cVI (M' := qX10_isSign) C rfl rfl aX10_isSign iX10_isSign sX10_isSign hRm (by omega) (by decide) (by omega) (by omega) rfl rfl rfl (Nat.le_of_ble_eq_true rfl) rfl hf (fun hs => wX10_isSign (by omega) (by omega) hs) (fun r6 c7 hf => ?_)
    refine mh_if_eq C rfl hf (fun e_28 hf => ?_) (fun e_28 hf => ?_)
    · exact mh_return C rfl (by omega) (by omega) rfl hf
    · exact wX2_readsTest_31 hE C hRm hd hde hn hk hw hf
def fX2_readsTest (N : Nat) (eE : Nat → Int32 → mm_C → mR Unit) (v0 : Nat) (v1 : Int32) (c : mm_C) : mR Unit := bX2_readsTest_0 N eE v0 v1 c
set_option maxRecDepth 100000 in
theorem wX2_readsTest {Z : mm_Z} {d n N : Nat} {eE : Nat → Int32 → mm_C → mR Unit} {dE : Nat} (hE : hE_X2_readsExpr Z dE eE) (hd : 12 ≤ d) (hde : dE + 4 ≤ d) (hn : n + 1 < 1000000) {v0 : Nat} {v1 : Int32} {c : mm_C} (hs : (fX2_readsTest N eE v0 v1 c).isSome = true) : mC Z qX2_readsTest d 1 6 [.ref v0, .int v1] (n, c) (mP 0 ovU n (fX2_readsTest N eE v0 v1 c)) := by
  refine mC_of gX2_readsTest (by decide +kernel) (Nat.le_of_ble_eq_true rfl) fun X C hRm => ?_
  have hf := hO_mP 0 ovU n hs
  have hk : 0 + 1 ≤ 1 := Nat.le_of_ble_eq_true rfl
  have hw : 0 + 6 ≤ 6 := Nat.le_of_ble_eq_true rfl
  show mG _ _ _ _ _ _ _ _ (0, [(0, .ref v0), (1, .int v1)], [], (n, c))
  exact wX2_readsTest_0 hE C hRm hd hde hn hk hw hf
def bX2_readsNot_63 (N : Nat) (eE : Nat → Int32 → mm_C → mR Unit)  (k63 : Nat → Int32 → Int32 → mm_C → mR Unit) (v0 : Nat) (v2 : Int32) (v3 : Int32) (c : mm_C) : mR Unit :=
  if v2 ≤ v3 then (some (.inl (), c)) else (Option.bind (gR c v0 2 3) fun x1 => Option.bind (gR c x1 3 8) fun x2 => cV 4 x2 c (fX4_emits N x2 (-13 : Int32) c) fun (_ : Unit) c3 => k63 v0 v2 (v3 + 1) c3)
set_option maxRecDepth 100000 in
theorem wX2_readsNot_63 {Z : mm_Z} {X : mm_T} {k w mc ms d n N : Nat} {Q : mm_O → mm_H → Prop} {eE : Nat → Int32 → mm_C → mR Unit} {dE : Nat} (hE : hE_X2_readsExpr Z dE eE) (C : mm_Ok Z qX2_readsNot X) (hRm : mt_R X = mm_rm d mc ms) (hd : 13 ≤ d) (hde : dE + 5 ≤ d) (hn : n + 1 < 1000000) (hk : k + 1 ≤ mc) (hw : w + 6 ≤ ms) {k63 : Nat → Int32 → Int32 → mm_C → mR Unit} (hk63 : ∀ (v0 : Nat) (v2 : Int32) (v3 : Int32) (c : mm_C), hO 0 ovU n (k63 v0 v2 v3 c) Q → mG Z qX2_readsNot X k w mc ms Q (63, [(0, .ref v0), (2, .int v2), (3, .int v3)], [], (n, c))) {v0 : Nat} {v2 : Int32} {v3 : Int32} {c : mm_C} (hf : hO 0 ovU n (bX2_readsNot_63 N eE  k63 v0 v2 v3 c) Q) : mG Z qX2_readsNot X k w mc ms Q (63, [(0, .ref v0), (2, .int v2), (3, .int v3)], [], (n, c)) := by
  unfold bX2_readsNot_63 at hf
  refine mg_iload_n C rfl rfl ?_
  refine mg_iload_n C rfl rfl ?_
  refine mh_icmp_ge C rfl hf (fun e_65 hf => ?_) (fun e_65 hf => ?_)
  · exact mh_return C rfl (by omega) (by omega) rfl hf
  · refine mg_aload_n C rfl rfl ?_
    refine mh_gR C rfl rfl rfl (by decide) hf (fun x1 hf => ?_)
    refine mh_gR C rfl rfl rfl (by decide) hf (fun x2 hf => ?_)
    refine mg_bipush (v := (-13)) C rfl (by decide) ?_
    refine mh_cVU (M' := qX4_emits) C rfl rfl aX4_emits iX4_emits sX4_emits hRm (by omega) (by decide) (by omega) (by omega) rfl rfl rfl (Nat.le_of_ble_eq_true rfl) rfl hf (fun hs => wX4_emits (by omega) (by omega) hs) (fun c3 hf => ?_)
    refine mg_iinc (lv' := [(0, .ref v0), (2, .int v2), (3, .int (v3 + 1))]) C rfl (Nat.le_of_ble_eq_true rfl) rfl (show _ + Int32.ofInt 1 = _ + 1 by congr 1) rfl ?_
    refine mg_goto C rfl ?_
    exact hk63 _ _ _ _ hf
def lX2_readsNot_63 (N : Nat) (eE : Nat → Int32 → mm_C → mR Unit)  : Nat → Nat → Int32 → Int32 → mm_C → mR Unit
  | 0, _, _, _, _ => none
  | m + 1, v0, v2, v3, c => bX2_readsNot_63 N eE  (lX2_readsNot_63 N eE  m) v0 v2 v3 c
theorem WX2_readsNot_63 {Z : mm_Z} {X : mm_T} {k w mc ms d n N : Nat} {Q : mm_O → mm_H → Prop} {eE : Nat → Int32 → mm_C → mR Unit} {dE : Nat} (hE : hE_X2_readsExpr Z dE eE) (C : mm_Ok Z qX2_readsNot X) (hRm : mt_R X = mm_rm d mc ms) (hd : 13 ≤ d) (hde : dE + 5 ≤ d) (hn : n + 1 < 1000000) (hk : k + 1 ≤ mc) (hw : w + 6 ≤ ms) : ∀ (m : Nat) {v0 : Nat} {v2 : Int32} {v3 : Int32} {c : mm_C} (hf : hO 0 ovU n (lX2_readsNot_63 N eE  m v0 v2 v3 c) Q), mG Z qX2_readsNot X k w mc ms Q (63, [(0, .ref v0), (2, .int v2), (3, .int v3)], [], (n, c)) := by
  intro m
  induction m with
  | zero => intro v0 v2 v3 c hf; exact absurd hf hO_none
  | succ m ih => intro v0 v2 v3 c hf; exact wX2_readsNot_63 hE C hRm hd hde hn hk hw (fun v0 v2 v3 c hf => ih hf) hf
def bX2_readsNot_56 (N : Nat) (eE : Nat → Int32 → mm_C → mR Unit)  (v0 : Nat) (v1 : Int32) (v2 : Int32) (c : mm_C) : mR Unit :=
  cV 2 v0 c (fX2_readsTest N eE v0 v1 c) fun (_ : Unit) c1 => lX2_readsNot_63 N eE  N v0 v2 (0 : Int32) c1
set_option maxRecDepth 100000 in
theorem wX2_readsNot_56 {Z : mm_Z} {X : mm_T} {k w mc ms d n N : Nat} {Q : mm_O → mm_H → Prop} {eE : Nat → Int32 → mm_C → mR Unit} {dE : Nat} (hE : hE_X2_readsExpr Z dE eE) (C : mm_Ok Z qX2_readsNot X) (hRm : mt_R X = mm_rm d mc ms) (hd : 13 ≤ d) (hde : dE + 5 ≤ d) (hn : n + 1 < 1000000) (hk : k + 1 ≤ mc) (hw : w + 6 ≤ ms) {v0 : Nat} {v1 : Int32} {v2 : Int32} {c : mm_C} (hf : hO 0 ovU n (bX2_readsNot_56 N eE  v0 v1 v2 c) Q) : mG Z qX2_readsNot X k w mc ms Q (56, [(0, .ref v0), (1, .int v1), (2, .int v2)], [], (n, c)) := by
  unfold bX2_readsNot_56 at hf
  refine mg_aload_n C rfl rfl ?_
  refine mg_iload_n C rfl rfl ?_
  refine mh_cVU (M' := qX2_readsTest) C rfl rfl aX2_readsTest iX2_readsTest sX2_readsTest hRm (by omega) (by decide) (by omega) (by omega) rfl rfl rfl (Nat.le_of_ble_eq_true rfl) rfl hf (fun hs => wX2_readsTest hE (by omega) (by omega) (by omega) hs) (fun c1 hf => ?_)
  refine mg_iconst (v := 0) C rfl (by decide) ?_
  refine mg_istore_n (lv' := [(0, .ref v0), (1, .int v1), (2, .int v2), (3, .int (0 : Int32))]) C rfl (Nat.le_of_ble_eq_true rfl) rfl ?_
  refine mg_sub (lv' := [(0, .ref v0), (2, .int v2), (3, .int (0 : Int32))]) (by simp) ?_
  exact WX2_readsNot_63 hE C hRm hd hde hn hk hw N hf
def bX2_readsNot_33 (N : Nat) (eE : Nat → Int32 → mm_C → mR Unit)  (v0 : Nat) (v1 : Int32) (v2 : Int32) (c : mm_C) : mR Unit :=
  if ¬ v2 = (6 : Int32) then (bX2_readsNot_56 N eE  v0 v1 v2 c) else (Option.bind (gR c v0 2 2) fun x1 => cV 10 x1 c (fX10_isWord N x1 (1000000 + 5) c) fun r2 c3 => if r2 = 0 then (bX2_readsNot_56 N eE  v0 v1 v2 c3) else (cV 2 v0 c3 (fX2_refuses N v0 (2 : Int32) c3) fun (_ : Unit) c4 => bX2_readsNot_56 N eE  v0 v1 v2 c4))
set_option maxRecDepth 100000 in
theorem wX2_readsNot_33 {Z : mm_Z} {X : mm_T} {k w mc ms d n N : Nat} {Q : mm_O → mm_H → Prop} {eE : Nat → Int32 → mm_C → mR Unit} {dE : Nat} (hE : hE_X2_readsExpr Z dE eE) (C : mm_Ok Z qX2_readsNot X) (hRm : mt_R X = mm_rm d mc ms) (hd : 13 ≤ d) (hde : dE + 5 ≤ d) (hn : n + 1 < 1000000) (hk : k + 1 ≤ mc) (hw : w + 6 ≤ ms) {v0 : Nat} {v1 : Int32} {v2 : Int32} {c : mm_C} (hf : hO 0 ovU n (bX2_readsNot_33 N eE  v0 v1 v2 c) Q) : mG Z qX2_readsNot X k w mc ms Q (33, [(0, .ref v0), (1, .int v1), (2, .int v2)], [], (n, c)) := by
  unfold bX2_readsNot_33 at hf
  refine mg_iload_n C rfl rfl ?_
  refine mg_bipush (v := 6) C rfl (by decide) ?_
  refine mh_icmp_ne C rfl hf (fun e_36 hf => ?_) (fun e_36 hf => ?_)
  · exact wX2_readsNot_56 hE C hRm hd hde hn hk hw hf
  · refine mg_aload_n C rfl rfl ?_
    refine mh_gR C rfl rfl rfl (by decide) hf (fun x1 hf => ?_)
    refine mg_ldcS (i := 5) (tx := "not") C rfl (by decide) ?_
    refine mh_cVI (M' := qX10_isWord) C rfl rfl aX10_isWord iX10_isWord sX10_isWord hRm (by omega) (by decide) (by omega) (by omega) rfl rfl rfl (Nat.le_of_ble_eq_true rfl) rfl hf (fun hs => wX10_isWord (by omega) (by omega) hs) (fun r2 c3 hf => ?_)
    refine mh_if_eq C rfl hf (fun e_48 hf => ?_) (fun e_48 hf => ?_)
    · exact wX2_readsNot_56 hE C hRm hd hde hn hk hw hf
    · refine mg_aload_n C rfl rfl ?_
      refine mg_iconst (v := 2) C rfl (by decide) ?_
      refine mh_cVU (M' := qX2_refuses) C rfl rfl aX2_refuses iX2_refuses sX2_refuses hRm (by omega) (by decide) (by omega) (by omega) rfl rfl rfl (Nat.le_of_ble_eq_true rfl) rfl hf (fun hs => wX2_refuses (by omega) (by omega) hs) (fun c4 hf => ?_)
      exact wX2_readsNot_56 hE C hRm hd hde hn hk hw hf
def bX2_readsNot_2 (N : Nat) (eE : Nat → Int32 → mm_C → mR Unit)  (k2 : Nat → Int32 → Int32 → mm_C → mR Unit) (v0 : Nat) (v1 : Int32) (v2 : Int32) (c : mm_C) : mR Unit :=
  if (6 : Int32) ≤ v2 then (bX2_readsNot_33 N eE  v0 v1 v2 c) else (Option.bind (gR c v0 2 2) fun x1 => cV 10 x1 c (fX10_isWord N x1 (1000000 + 5) c) fun r2 c3 => if r2 = 0 then (bX2_readsNot_33 N eE  v0 v1 v2 c3) else (Option.bind (gR c3 v0 2 2) fun x4 => cV 10 x4 c3 (fX10_advances N x4 c3) fun (_ : Unit) c5 => k2 v0 v1 (v2 + 1) c5))
set_option maxRecDepth 100000 in
theorem wX2_readsNot_2 {Z : mm_Z} {X : mm_T} {k w mc ms d n N : Nat} {Q : mm_O → mm_H → Prop} {eE : Nat → Int32 → mm_C → mR Unit} {dE : Nat} (hE : hE_X2_readsExpr Z dE eE) (C : mm_Ok Z qX2_readsNot X) (hRm : mt_R X = mm_rm d mc ms) (hd : 13 ≤ d) (hde : dE + 5 ≤ d) (hn : n + 1 < 1000000) (hk : k + 1 ≤ mc) (hw : w + 6 ≤ ms) {k2 : Nat → Int32 → Int32 → mm_C → mR Unit} (hk2 : ∀ (v0 : Nat) (v1 : Int32) (v2 : Int32) (c : mm_C), hO 0 ovU n (k2 v0 v1 v2 c) Q → mG Z qX2_readsNot X k w mc ms Q (2, [(0, .ref v0), (1, .int v1), (2, .int v2)], [], (n, c))) {v0 : Nat} {v1 : Int32} {v2 : Int32} {c : mm_C} (hf : hO 0 ovU n (bX2_readsNot_2 N eE  k2 v0 v1 v2 c) Q) : mG Z qX2_readsNot X k w mc ms Q (2, [(0, .ref v0), (1, .int v1), (2, .int v2)], [], (n, c)) := by
  unfold bX2_readsNot_2 at hf
  refine mg_iload_n C rfl rfl ?_
  refine mg_bipush (v := 6) C rfl (by decide) ?_
  refine mh_icmp_ge C rfl hf (fun e_5 hf => ?_) (fun e_5 hf => ?_)
  · exact wX2_readsNot_33 hE C hRm hd hde hn hk hw hf
  · refine mg_aload_n C rfl rfl ?_
    refine mh_gR C rfl rfl rfl (by decide) hf (fun x1 hf => ?_)
    refine mg_ldcS (i := 5) (tx := "not") C rfl (by decide) ?_
    refine mh_cVI (M' := qX10_isWord) C rfl rfl aX10_isWord iX10_isWord sX10_isWord hRm (by omega) (by decide) (by omega) (by omega) rfl rfl rfl (Nat.le_of_ble_eq_true rfl) rfl hf (fun hs => wX10_isWord (by omega) (by omega) hs) (fun r2 c3 hf => ?_)
    refine mh_if_eq C rfl hf (fun e_17 hf => ?_) (fun e_17 hf => ?_)
    · exact wX2_readsNot_33 hE C hRm hd hde hn hk hw hf
    · refine mg_aload_n C rfl rfl ?_
      refine mh_gR C rfl rfl rfl (by decide) hf (fun x4 hf => ?_)
      refine mh_cVU (M' := qX10_advances) C rfl rfl aX10_advances iX10_advances sX10_advances hRm (by omega) (by decide) (by omega) (by omega) rfl rfl rfl (Nat.le_of_ble_eq_true rfl) rfl hf (fun hs => wX10_advances (by omega) (by omega) hs) (fun c5 hf => ?_)
      refine mg_iinc (lv' := [(0, .ref v0), (1, .int v1), (2, .int (v2 + 1))]) C rfl (Nat.le_of_ble_eq_true rfl) rfl (show _ + Int32.ofInt 1 = _ + 1 by congr 1) rfl ?_
      refine mg_goto C rfl ?_
      exact hk2 _ _ _ _ hf
def lX2_readsNot_2 (N : Nat) (eE : Nat → Int32 → mm_C → mR Unit)  : Nat → Nat → Int32 → Int32 → mm_C → mR Unit
  | 0, _, _, _, _ => none
  | m + 1, v0, v1, v2, c => bX2_readsNot_2 N eE  (lX2_readsNot_2 N eE  m) v0 v1 v2 c
theorem WX2_readsNot_2 {Z : mm_Z} {X : mm_T} {k w mc ms d n N : Nat} {Q : mm_O → mm_H → Prop} {eE : Nat → Int32 → mm_C → mR Unit} {dE : Nat} (hE : hE_X2_readsExpr Z dE eE) (C : mm_Ok Z qX2_readsNot X) (hRm : mt_R X = mm_rm d mc ms) (hd : 13 ≤ d) (hde : dE + 5 ≤ d) (hn : n + 1 < 1000000) (hk : k + 1 ≤ mc) (hw : w + 6 ≤ ms) : ∀ (m : Nat) {v0 : Nat} {v1 : Int32} {v2 : Int32} {c : mm_C} (hf : hO 0 ovU n (lX2_readsNot_2 N eE  m v0 v1 v2 c) Q), mG Z qX2_readsNot X k w mc ms Q (2, [(0, .ref v0), (1, .int v1), (2, .int v2)], [], (n, c)) := by
  intro m
  induction m with
  | zero => intro v0 v1 v2 c hf; exact absurd hf hO_none
  | succ m ih => intro v0 v1 v2 c hf; exact wX2_readsNot_2 hE C hRm hd hde hn hk hw (fun v0 v1 v2 c hf => ih hf) hf
def bX2_readsNot_0 (N : Nat) (eE : Nat → Int32 → mm_C → mR Unit)  (v0 : Nat) (v1 : Int32) (c : mm_C) : mR Unit :=
  lX2_readsNot_2 N eE  N v0 v1 (0 : Int32) c
set_option maxRecDepth 100000 in
theorem wX2_readsNot_0 {Z : mm_Z} {X : mm_T} {k w mc ms d n N : Nat} {Q : mm_O → mm_H → Prop} {eE : Nat → Int32 → mm_C → mR Unit} {dE : Nat} (hE : hE_X2_readsExpr Z dE eE) (C : mm_Ok Z qX2_readsNot X) (hRm : mt_R X = mm_rm d mc ms) (hd : 13 ≤ d) (hde : dE + 5 ≤ d) (hn : n + 1 < 1000000) (hk : k + 1 ≤ mc) (hw : w + 6 ≤ ms) {v0 : Nat} {v1 : Int32} {c : mm_C} (hf : hO 0 ovU n (bX2_readsNot_0 N eE  v0 v1 c) Q) : mG Z qX2_readsNot X k w mc ms Q (0, [(0, .ref v0), (1, .int v1)], [], (n, c)) := by
  unfold bX2_readsNot_0 at hf
  refine mg_iconst (v := 0) C rfl (by decide) ?_
  refine mg_istore_n (lv' := [(0, .ref v0), (1, .int v1), (2, .int (0 : Int32))]) C rfl (Nat.le_of_ble_eq_true rfl) rfl ?_
  exact WX2_readsNot_2 hE C hRm hd hde hn hk hw N hf
def fX2_readsNot (N : Nat) (eE : Nat → Int32 → mm_C → mR Unit) (v0 : Nat) (v1 : Int32) (c : mm_C) : mR Unit := bX2_readsNot_0 N eE v0 v1 c
set_option maxRecDepth 100000 in
theorem wX2_readsNot {Z : mm_Z} {d n N : Nat} {eE : Nat → Int32 → mm_C → mR Unit} {dE : Nat} (hE : hE_X2_readsExpr Z dE eE) (hd : 13 ≤ d) (hde : dE + 5 ≤ d) (hn : n + 1 < 1000000) {v0 : Nat} {v1 : Int32} {c : mm_C} (hs : (fX2_readsNot N eE v0 v1 c).isSome = true) : mC Z qX2_readsNot d 1 6 [.ref v0, .int v1] (n, c) (mP 0 ovU n (fX2_readsNot N eE v0 v1 c)) := by
  refine mC_of gX2_readsNot (by decide +kernel) (Nat.le_of_ble_eq_true rfl) fun X C hRm => ?_
  have hf := hO_mP 0 ovU n hs
  have hk : 0 + 1 ≤ 1 := Nat.le_of_ble_eq_true rfl
  have hw : 0 + 6 ≤ 6 := Nat.le_of_ble_eq_true rfl
  show mG _ _ _ _ _ _ _ _ (0, [(0, .ref v0), (1, .int v1)], [], (n, c))
  exact wX2_readsNot_0 hE C hRm hd hde hn hk hw hf
def bX2_readsAnd_7 (N : Nat) (eE : Nat → Int32 → mm_C → mR Unit)  (k7 : Nat → Int32 → Int32 → mm_C → mR Unit) (v0 : Nat) (v1 : Int32) (v2 : Int32) (c : mm_C) : mR Unit :=
  if (700 : Int32) ≤ v2 then (some (.inl (), c)) else (Option.bind (gR c v0 2 2) fun x1 => cV 10 x1 c (fX10_isWord N x1 (1000000 + 7) c) fun r2 c3 => if r2 = 0 then (some (.inl (), c3)) else (Option.bind (gR c3 v0 2 2) fun x4 => cV 10 x4 c3 (fX10_advances N x4 c3) fun (_ : Unit) c5 => cV 2 v0 c5 (fX2_readsNot N eE v0 v1 c5) fun (_ : Unit) c6 => Option.bind (gR c6 v0 2 3) fun x7 => Option.bind (gR c6 x7 3 8) fun x8 => cV 4 x8 c6 (fX4_emits N x8 (-12 : Int32) c6) fun (_ : Unit) c9 => k7 v0 v1 (v2 + 1) c9))
set_option maxRecDepth 100000 in
theorem wX2_readsAnd_7 {Z : mm_Z} {X : mm_T} {k w mc ms d n N : Nat} {Q : mm_O → mm_H → Prop} {eE : Nat → Int32 → mm_C → mR Unit} {dE : Nat} (hE : hE_X2_readsExpr Z dE eE) (C : mm_Ok Z qX2_readsAnd X) (hRm : mt_R X = mm_rm d mc ms) (hd : 14 ≤ d) (hde : dE + 6 ≤ d) (hn : n + 1 < 1000000) (hk : k + 1 ≤ mc) (hw : w + 6 ≤ ms) {k7 : Nat → Int32 → Int32 → mm_C → mR Unit} (hk7 : ∀ (v0 : Nat) (v1 : Int32) (v2 : Int32) (c : mm_C), hO 0 ovU n (k7 v0 v1 v2 c) Q → mG Z qX2_readsAnd X k w mc ms Q (7, [(0, .ref v0), (1, .int v1), (2, .int v2)], [], (n, c))) {v0 : Nat} {v1 : Int32} {v2 : Int32} {c : mm_C} (hf : hO 0 ovU n (bX2_readsAnd_7 N eE  k7 v0 v1 v2 c) Q) : mG Z qX2_readsAnd X k w mc ms Q (7, [(0, .ref v0), (1, .int v1), (2, .int v2)], [], (n, c)) := by
  unfold bX2_readsAnd_7 at hf
  refine mg_iload_n C rfl rfl ?_
  refine mg_sipush (v := 700) C rfl (by decide) ?_
  refine mh_icmp_ge C rfl hf (fun e_11 hf => ?_) (fun e_11 hf => ?_)
  · exact mh_return C rfl (by omega) (by omega) rfl hf
  · refine mg_aload_n C rfl rfl ?_
    refine mh_gR C rfl rfl rfl (by decide) hf (fun x1 hf => ?_)
    refine mg_ldcS (i := 7) (tx := "and") C rfl (by decide) ?_
    refine mh_cVI (M' := qX10_isWord) C rfl rfl aX10_isWord iX10_isWord sX10_isWord hRm (by omega) (by decide) (by omega) (by omega) rfl rfl rfl (Nat.le_of_ble_eq_true rfl) rfl hf (fun hs => wX10_isWord (by omega) (by omega) hs) (fun r2 c3 hf => ?_)
    refine mh_if_eq C rfl hf (fun e_23 hf => ?_) (fun e_23 hf => ?_)
    · exact mh_return C rfl (by omega) (by omega) rfl hf
    · refine mg_aload_n C rfl rfl ?_
      refine mh_gR C rfl rfl rfl (by decide) hf (fun x4 hf => ?_)
      refine mh_cVU (M' := qX10_advances) C rfl rfl aX10_advances iX10_advances sX10_advances hRm (by omega) (by decide) (by omega) (by omega) rfl rfl rfl (Nat.le_of_ble_eq_true rfl) rfl hf (fun hs => wX10_advances (by omega) (by omega) hs) (fun c5 hf => ?_)
      refine mg_aload_n C rfl rfl ?_
      refine mg_iload_n C rfl rfl ?_
      refine mh_cVU (M' := qX2_readsNot) C rfl rfl aX2_readsNot iX2_readsNot sX2_readsNot hRm (by omega) (by decide) (by omega) (by omega) rfl rfl rfl (Nat.le_of_ble_eq_true rfl) rfl hf (fun hs => wX2_readsNot hE (by omega) (by omega) (by omega) hs) (fun c6 hf => ?_)
      refine mg_aload_n C rfl rfl ?_
      refine mh_gR C rfl rfl rfl (by decide) hf (fun x7 hf => ?_)
      refine mh_gR C rfl rfl rfl (by decide) hf (fun x8 hf => ?_)
      refine mg_bipush (v := (-12)) C rfl (by decide) ?_
      refine mh_cVU (M' := qX4_emits) C rfl rfl aX4_emits iX4_emits sX4_emits hRm (by omega) (by decide) (by omega) (by omega) rfl rfl rfl (Nat.le_of_ble_eq_true rfl) rfl hf (fun hs => wX4_emits (by omega) (by omega) hs) (fun c9 hf => ?_)
      refine mg_iinc (lv' := [(0, .ref v0), (1, .int v1), (2, .int (v2 + 1))]) C rfl (Nat.le_of_ble_eq_true rfl) rfl (show _ + Int32.ofInt 1 = _ + 1 by congr 1) rfl ?_
      refine mg_goto C rfl ?_
      exact hk7 _ _ _ _ hf
def lX2_readsAnd_7 (N : Nat) (eE : Nat → Int32 → mm_C → mR Unit)  : Nat → Nat → Int32 → Int32 → mm_C → mR Unit
  | 0, _, _, _, _ => none
  | m + 1, v0, v1, v2, c => bX2_readsAnd_7 N eE  (lX2_readsAnd_7 N eE  m) v0 v1 v2 c
theorem WX2_readsAnd_7 {Z : mm_Z} {X : mm_T} {k w mc ms d n N : Nat} {Q : mm_O → mm_H → Prop} {eE : Nat → Int32 → mm_C → mR Unit} {dE : Nat} (hE : hE_X2_readsExpr Z dE eE) (C : mm_Ok Z qX2_readsAnd X) (hRm : mt_R X = mm_rm d mc ms) (hd : 14 ≤ d) (hde : dE + 6 ≤ d) (hn : n + 1 < 1000000) (hk : k + 1 ≤ mc) (hw : w + 6 ≤ ms) : ∀ (m : Nat) {v0 : Nat} {v1 : Int32} {v2 : Int32} {c : mm_C} (hf : hO 0 ovU n (lX2_readsAnd_7 N eE  m v0 v1 v2 c) Q), mG Z qX2_readsAnd X k w mc ms Q (7, [(0, .ref v0), (1, .int v1), (2, .int v2)], [], (n, c)) := by
  intro m
  induction m with
  | zero => intro v0 v1 v2 c hf; exact absurd hf hO_none
  | succ m ih => intro v0 v1 v2 c hf; exact wX2_readsAnd_7 hE C hRm hd hde hn hk hw (fun v0 v1 v2 c hf => ih hf) hf
def bX2_readsAnd_0 (N : Nat) (eE : Nat → Int32 → mm_C → mR Unit)  (v0 : Nat) (v1 : Int32) (c : mm_C) : mR Unit :=
  cV 2 v0 c (fX2_readsNot N eE v0 v1 c) fun (_ : Unit) c1 => lX2_readsAnd_7 N eE  N v0 v1 (0 : Int32) c1
set_option maxRecDepth 100000 in
theorem wX2_readsAnd_0 {Z : mm_Z} {X : mm_T} {k w mc ms d n N : Nat} {Q : mm_O → mm_H → Prop} {eE : Nat → Int32 → mm_C → mR Unit} {dE : Nat} (hE : hE_X2_readsExpr Z dE eE) (C : mm_Ok Z qX2_readsAnd X) (hRm : mt_R X = mm_rm d mc ms) (hd : 14 ≤ d) (hde : dE + 6 ≤ d) (hn : n + 1 < 1000000) (hk : k + 1 ≤ mc) (hw : w + 6 ≤ ms) {v0 : Nat} {v1 : Int32} {c : mm_C} (hf : hO 0 ovU n (bX2_readsAnd_0 N eE  v0 v1 c) Q) : mG Z qX2_readsAnd X k w mc ms Q (0, [(0, .ref v0), (1, .int v1)], [], (n, c)) := by
  unfold bX2_readsAnd_0 at hf
  refine mg_aload_n C rfl rfl ?_
  refine mg_iload_n C rfl rfl ?_
  refine mh_cVU (M' := qX2_readsNot) C rfl rfl aX2_readsNot iX2_readsNot sX2_readsNot hRm (by omega) (by decide) (by omega) (by omega) rfl rfl rfl (Nat.le_of_ble_eq_true rfl) rfl hf (fun hs => wX2_readsNot hE (by omega) (by omega) (by omega) hs) (fun c1 hf => ?_)
  refine mg_iconst (v := 0) C rfl (by decide) ?_
  refine mg_istore_n (lv' := [(0, .ref v0), (1, .int v1), (2, .int (0 : Int32))]) C rfl (Nat.le_of_ble_eq_true rfl) rfl ?_
  exact WX2_readsAnd_7 hE C hRm hd hde hn hk hw N hf
def fX2_readsAnd (N : Nat) (eE : Nat → Int32 → mm_C → mR Unit) (v0 : Nat) (v1 : Int32) (c : mm_C) : mR Unit := bX2_readsAnd_0 N eE v0 v1 c
set_option maxRecDepth 100000 in
theorem wX2_readsAnd {Z : mm_Z} {d n N : Nat} {eE : Nat → Int32 → mm_C → mR Unit} {dE : Nat} (hE : hE_X2_readsExpr Z dE eE) (hd : 14 ≤ d) (hde : dE + 6 ≤ d) (hn : n + 1 < 1000000) {v0 : Nat} {v1 : Int32} {c : mm_C} (hs : (fX2_readsAnd N eE v0 v1 c).isSome = true) : mC Z qX2_readsAnd d 1 6 [.ref v0, .int v1] (n, c) (mP 0 ovU n (fX2_readsAnd N eE v0 v1 c)) := by
  refine mC_of gX2_readsAnd (by decide +kernel) (Nat.le_of_ble_eq_true rfl) fun X C hRm => ?_
  have hf := hO_mP 0 ovU n hs
  have hk : 0 + 1 ≤ 1 := Nat.le_of_ble_eq_true rfl
  have hw : 0 + 6 ≤ 6 := Nat.le_of_ble_eq_true rfl
  show mG _ _ _ _ _ _ _ _ (0, [(0, .ref v0), (1, .int v1)], [], (n, c))
  exact wX2_readsAnd_0 hE C hRm hd hde hn hk hw hf
def bX2_readsExpr_29 (N : Nat) (eE : Nat → Int32 → mm_C → mR Unit)  (k29 : Nat → Int32 → Int32 → mm_C → mR Unit) (v0 : Nat) (v1 : Int32) (v2 : Int32) (c : mm_C) : mR Unit :=
  if (700 : Int32) ≤ v2 then (some (.inl (), c)) else (Option.bind (gR c v0 2 2) fun x1 => cV 10 x1 c (fX10_isWord N x1 (1000000 + 8) c) fun r2 c3 => if r2 = 0 then (some (.inl (), c3)) else (Option.bind (gR c3 v0 2 2) fun x4 => cV 10 x4 c3 (fX10_advances N x4 c3) fun (_ : Unit) c5 => cV 2 v0 c5 (fX2_readsAnd N eE v0 v1 c5) fun (_ : Unit) c6 => Option.bind (gR c6 v0 2 3) fun x7 => Option.bind (gR c6 x7 3 8) fun x8 => cV 4 x8 c6 (fX4_emits N x8 (-11 : Int32) c6) fun (_ : Unit) c9 => k29 v0 v1 (v2 + 1) c9))
set_option maxRecDepth 100000 in
theorem wX2_readsExpr_29 {Z : mm_Z} {X : mm_T} {k w mc ms d n N : Nat} {Q : mm_O → mm_H → Prop} {eE : Nat → Int32 → mm_C → mR Unit} {dE : Nat} (hE : hE_X2_readsExpr Z dE eE) (C : mm_Ok Z qX2_readsExpr X) (hRm : mt_R X = mm_rm d mc ms) (hd : 15 ≤ d) (hde : dE + 7 ≤ d) (hn : n + 1 < 1000000) (hk : k + 1 ≤ mc) (hw : w + 6 ≤ ms) {k29 : Nat → Int32 → Int32 → mm_C → mR Unit} (hk29 : ∀ (v0 : Nat) (v1 : Int32) (v2 : Int32) (c : mm_C), hO 0 ovU n (k29 v0 v1 v2 c) Q → mG Z qX2_readsExpr X k w mc ms Q (29, [(0, .ref v0), (1, .int v1), (2, .int v2)], [], (n, c))) {v0 : Nat} {v1 : Int32} {v2 : Int32} {c : mm_C} (hf : hO 0 ovU n (bX2_readsExpr_29 N eE  k29 v0 v1 v2 c) Q) : mG Z qX2_readsExpr X k w mc ms Q (29, [(0, .ref v0), (1, .int v1), (2, .int v2)], [], (n, c)) := by
  unfold bX2_readsExpr_29 at hf
  refine mg_iload_n C rfl rfl ?_
  refine mg_sipush (v := 700) C rfl (by decide) ?_
  refine mh_icmp_ge C rfl hf (fun e_33 hf => ?_) (fun e_33 hf => ?_)
  · exact mh_return C rfl (by omega) (by omega) rfl hf
  · refine mg_aload_n C rfl rfl ?_
    refine mh_gR C rfl rfl rfl (by decide) hf (fun x1 hf => ?_)
    refine mg_ldcS (i := 8) (tx := "or") C rfl (by decide) ?_
    refine mh_cVI (M' := qX10_isWord) C rfl rfl aX10_isWord iX10_isWord sX10_isWord hRm (by omega) (by decide) (by omega) (by omega) rfl rfl rfl (Nat.le_of_ble_eq_true rfl) rfl hf (fun hs => wX10_isWord (by omega) (by omega) hs) (fun r2 c3 hf => ?_)
    refine mh_if_eq C rfl hf (fun e_45 hf => ?_) (fun e_45 hf => ?_)
    · exact mh_return C rfl (by omega) (by omega) rfl hf
    · refine mg_aload_n C rfl rfl ?_
      refine mh_gR C rfl rfl rfl (by decide) hf (fun x4 hf => ?_)
      refine mh_cVU (M' := qX10_advances) C rfl rfl aX10_advances iX10_advances sX10_advances hRm (by omega) (by decide) (by omega) (by omega) rfl rfl rfl (Nat.le_of_ble_eq_true rfl) rfl hf (fun hs => wX10_advances (by omega) (by omega) hs) (fun c5 hf => ?_)
      refine mg_aload_n C rfl rfl ?_
      refine mg_iload_n C rfl rfl ?_
      refine mh_cVU (M' := qX2_readsAnd) C rfl rfl aX2_readsAnd iX2_readsAnd sX2_readsAnd hRm (by omega) (by decide) (by omega) (by omega) rfl rfl rfl (Nat.le_of_ble_eq_true rfl) rfl hf (fun hs => wX2_readsAnd hE (by omega) (by omega) (by omega) hs) (fun c6 hf => ?_)
      refine mg_aload_n C rfl rfl ?_
      refine mh_gR C rfl rfl rfl (by decide) hf (fun x7 hf => ?_)
      refine mh_gR C rfl rfl rfl (by decide) hf (fun x8 hf => ?_)
      refine mg_bipush (v := (-11)) C rfl (by decide) ?_
      refine mh_cVU (M' := qX4_emits) C rfl rfl aX4_emits iX4_emits sX4_emits hRm (by omega) (by decide) (by omega) (by omega) rfl rfl rfl (Nat.le_of_ble_eq_true rfl) rfl hf (fun hs => wX4_emits (by omega) (by omega) hs) (fun c9 hf => ?_)
      refine mg_iinc (lv' := [(0, .ref v0), (1, .int v1), (2, .int (v2 + 1))]) C rfl (Nat.le_of_ble_eq_true rfl) rfl (show _ + Int32.ofInt 1 = _ + 1 by congr 1) rfl ?_
      refine mg_goto C rfl ?_
      exact hk29 _ _ _ _ hf
def lX2_readsExpr_29 (N : Nat) (eE : Nat → Int32 → mm_C → mR Unit)  : Nat → Nat → Int32 → Int32 → mm_C → mR Unit
  | 0, _, _, _, _ => none
  | m + 1, v0, v1, v2, c => bX2_readsExpr_29 N eE  (lX2_readsExpr_29 N eE  m) v0 v1 v2 c
theorem WX2_readsExpr_29 {Z : mm_Z} {X : mm_T} {k w mc ms d n N : Nat} {Q : mm_O → mm_H → Prop} {eE : Nat → Int32 → mm_C → mR Unit} {dE : Nat} (hE : hE_X2_readsExpr Z dE eE) (C : mm_Ok Z qX2_readsExpr X) (hRm : mt_R X = mm_rm d mc ms) (hd : 15 ≤ d) (hde : dE + 7 ≤ d) (hn : n + 1 < 1000000) (hk : k + 1 ≤ mc) (hw : w + 6 ≤ ms) : ∀ (m : Nat) {v0 : Nat} {v1 : Int32} {v2 : Int32} {c : mm_C} (hf : hO 0 ovU n (lX2_readsExpr_29 N eE  m v0 v1 v2 c) Q), mG Z qX2_readsExpr X k w mc ms Q (29, [(0, .ref v0), (1, .int v1), (2, .int v2)], [], (n, c)) := by
  intro m
  induction m with
  | zero => intro v0 v1 v2 c hf; exact absurd hf hO_none
  | succ m ih => intro v0 v1 v2 c hf; exact wX2_readsExpr_29 hE C hRm hd hde hn hk hw (fun v0 v1 v2 c hf => ih hf) hf
def bX2_readsExpr_22 (N : Nat) (eE : Nat → Int32 → mm_C → mR Unit)  (v0 : Nat) (v1 : Int32) (c : mm_C) : mR Unit :=
  cV 2 v0 c (fX2_readsAnd N eE v0 v1 c) fun (_ : Unit) c1 => lX2_readsExpr_29 N eE  N v0 v1 (0 : Int32) c1
set_option maxRecDepth 100000 in
theorem wX2_readsExpr_22 {Z : mm_Z} {X : mm_T} {k w mc ms d n N : Nat} {Q : mm_O → mm_H → Prop} {eE : Nat → Int32 → mm_C → mR Unit} {dE : Nat} (hE : hE_X2_readsExpr Z dE eE) (C : mm_Ok Z qX2_readsExpr X) (hRm : mt_R X = mm_rm d mc ms) (hd : 15 ≤ d) (hde : dE + 7 ≤ d) (hn : n + 1 < 1000000) (hk : k + 1 ≤ mc) (hw : w + 6 ≤ ms) {v0 : Nat} {v1 : Int32} {c : mm_C} (hf : hO 0 ovU n (bX2_readsExpr_22 N eE  v0 v1 c) Q) : mG Z qX2_readsExpr X k w mc ms Q (22, [(0, .ref v0), (1, .int v1)], [], (n, c)) := by
  unfold bX2_readsExpr_22 at hf
  refine mg_aload_n C rfl rfl ?_
  refine mg_iload_n C rfl rfl ?_
  refine mh_cVU (M' := qX2_readsAnd) C rfl rfl aX2_readsAnd iX2_readsAnd sX2_readsAnd hRm (by omega) (by decide) (by omega) (by omega) rfl rfl rfl (Nat.le_of_ble_eq_true rfl) rfl hf (fun hs => wX2_readsAnd hE (by omega) (by omega) (by omega) hs) (fun c1 hf => ?_)
  refine mg_iconst (v := 0) C rfl (by decide) ?_
  refine mg_istore_n (lv' := [(0, .ref v0), (1, .int v1), (2, .int (0 : Int32))]) C rfl (Nat.le_of_ble_eq_true rfl) rfl ?_
  exact WX2_readsExpr_29 hE C hRm hd hde hn hk hw N hf
def bX2_readsExpr_19 (N : Nat) (eE : Nat → Int32 → mm_C → mR Unit)  (v0 : Nat) (v1 : Int32) (s0 : Nat) (s1 : Int32) (c : mm_C) : mR Unit :=
  cV 2 s0 c (fX2_refuses N s0 s1 c) fun (_ : Unit) c1 => bX2_readsExpr_22 N eE  v0 v1 c1
set_option maxRecDepth 100000 in
theorem wX2_readsExpr_19 {Z : mm_Z} {X : mm_T} {k w mc ms d n N : Nat} {Q : mm_O → mm_H → Prop} {eE : Nat → Int32 → mm_C → mR Unit} {dE : Nat} (hE : hE_X2_readsExpr Z dE eE) (C : mm_Ok Z qX2_readsExpr X) (hRm : mt_R X = mm_rm d mc ms) (hd : 15 ≤ d) (hde : dE + 7 ≤ d) (hn : n + 1 < 1000000) (hk : k + 1 ≤ mc) (hw : w + 6 ≤ ms) {v0 : Nat} {v1 : Int32} {s0 : Nat} {s1 : Int32} {c : mm_C} (hf : hO 0 ovU n (bX2_readsExpr_19 N eE  v0 v1 s0 s1 c) Q) : mG Z qX2_readsExpr X k w mc ms Q (19, [(0, .ref v0), (1, .int v1)], [.int s1, .ref s0], (n, c)) := by
  unfold bX2_readsExpr_19 at hf
  refine mh_cVU (M' := qX2_refuses) C rfl rfl aX2_refuses iX2_refuses sX2_refuses hRm (by omega) (by decide) (by omega) (by omega) rfl rfl rfl (Nat.le_of_ble_eq_true rfl) rfl hf (fun hs => wX2_refuses (by omega) (by omega) hs) (fun c1 hf => ?_)
  exact wX2_readsExpr_22 hE C hRm hd hde hn hk hw hf
def bX2_readsExpr_0 (N : Nat) (eE : Nat → Int32 → mm_C → mR Unit)  (v0 : Nat) (v1 : Int32) (c : mm_C) : mR Unit :=
  if v1 < (6 : Int32) then (bX2_readsExpr_22 N eE  v0 v1 c) else (cV 2 v0 c (fX2_beginsPart N v0 c) fun r1 c2 => if r1 = 0 then (bX2_readsExpr_19 N eE  v0 v1 v0 (1 : Int32) c2) else (bX2_readsExpr_19 N eE  v0 v1 v0 (2 : Int32) c2))
set_option maxRecDepth 100000 in
theorem wX2_readsExpr_0 {Z : mm_Z} {X : mm_T} {k w mc ms d n N : Nat} {Q : mm_O → mm_H → Prop} {eE : Nat → Int32 → mm_C → mR Unit} {dE : Nat} (hE : hE_X2_readsExpr Z dE eE) (C : mm_Ok Z qX2_readsExpr X) (hRm : mt_R X = mm_rm d mc ms) (hd : 15 ≤ d) (hde : dE + 7 ≤ d) (hn : n + 1 < 1000000) (hk : k + 1 ≤ mc) (hw : w + 6 ≤ ms) {v0 : Nat} {v1 : Int32} {c : mm_C} (hf : hO 0 ovU n (bX2_readsExpr_0 N eE  v0 v1 c) Q) : mG Z qX2_readsExpr X k w mc ms Q (0, [(0, .ref v0), (1, .int v1)], [], (n, c)) := by
  unfold bX2_readsExpr_0 at hf
  refine mg_iload_n C rfl rfl ?_
  refine mg_bipush (v := 6) C rfl (by decide) ?_
  refine mh_icmp_lt C rfl hf (fun e_3 hf => ?_) (fun e_3 hf => ?_)
  · exact wX2_readsExpr_22 hE C hRm hd hde hn hk hw hf
  · refine mg_aload_n C rfl rfl ?_
    refine mg_aload_n C rfl rfl ?_
    refine mh_cVI (M' := qX2_beginsPart) C rfl rfl aX2_beginsPart iX2_beginsPart sX2_beginsPart hRm (by omega) (by decide) (by omega) (by omega) rfl rfl rfl (Nat.le_of_ble_eq_true rfl) rfl hf (fun hs => wX2_beginsPart (by omega) (by omega) hs) (fun r1 c2 hf => ?_)
    refine mh_if_eq C rfl hf (fun e_11 hf => ?_) (fun e_11 hf => ?_)
    · refine mg_iconst (v := 1) C rfl (by decide) ?_
      exact wX2_readsExpr_19 hE C hRm hd hde hn hk hw hf
    · refine mg_iconst (v := 2) C rfl (by decide) ?_
      refine mg_goto C rfl ?_
      exact wX2_readsExpr_19 hE C hRm hd hde hn hk hw hf
def fg_X2_readsExpr (N : Nat) (eE : Nat → Int32 → mm_C → mR Unit) (v0 : Nat) (v1 : Int32) (c : mm_C) : mR Unit := bX2_readsExpr_0 N eE v0 v1 c
set_option maxRecDepth 100000 in
theorem wg_X2_readsExpr {Z : mm_Z} {d n N : Nat} {eE : Nat → Int32 → mm_C → mR Unit} {dE : Nat} (hE : hE_X2_readsExpr Z dE eE) (hd : 15 ≤ d) (hde : dE + 7 ≤ d) (hn : n + 1 < 1000000) {v0 : Nat} {v1 : Int32} {c : mm_C} (hs : (fg_X2_readsExpr N eE v0 v1 c).isSome = true) : mC Z qX2_readsExpr d 1 6 [.ref v0, .int v1] (n, c) (mP 0 ovU n (fg_X2_readsExpr N eE v0 v1 c)) := by
  refine mC_of gX2_readsExpr (by decide +kernel) (Nat.le_of_ble_eq_true rfl) fun X C hRm => ?_
  have hf := hO_mP 0 ovU n hs
  have hk : 0 + 1 ≤ 1 := Nat.le_of_ble_eq_true rfl
  have hw : 0 + 6 ≤ 6 := Nat.le_of_ble_eq_true rfl
  show mG _ _ _ _ _ _ _ _ (0, [(0, .ref v0), (1, .int v1)], [], (n, c))
  exact wX2_readsExpr_0 hE C hRm hd hde hn hk hw hf
def fX2_readsExpr (N : Nat) : Nat → Nat → Int32 → mm_C → mR Unit
  | 0, _, _, _ => none
  | r + 1, v0, v1, c => fg_X2_readsExpr N (fX2_readsExpr N r) v0 v1 c
theorem hE_X2_readsExpr_of {Z : mm_Z} {N : Nat} : ∀ r : Nat, hE_X2_readsExpr Z (15 + 7 * r) (fX2_readsExpr N r)
  | 0 => fun d hd n hn _ _ c hs => absurd hs (by simp [fX2_readsExpr])
  | r + 1 => fun d hd n hn _ _ c hs => wg_X2_readsExpr (hE_X2_readsExpr_of r) (by omega) (by omega) hn hs
theorem wX2_readsExpr {Z : mm_Z} {d n N : Nat} (hd : 99 ≤ d) (hn : n + 1 < 1000000) {v0 : Nat} {v1 : Int32} {c : mm_C} (hs : (fX2_readsExpr N 12 v0 v1 c).isSome = true) : mC Z qX2_readsExpr d 1 6 [.ref v0, .int v1] (n, c) (mP 0 ovU n (fX2_readsExpr N 12 v0 v1 c)) := hE_X2_readsExpr_of 12 d hd n hn _ _ c hs
def bX2_readsRule_19 (N : Nat)  (v0 : Nat) (c : mm_C) : mR Unit :=
  Option.bind (gR c v0 2 2) fun x1 => cV 10 x1 c (fX10_advances N x1 c) fun (_ : Unit) c2 => cV 2 v0 c2 (fX2_readsExpr N 12 v0 (0 : Int32) c2) fun (_ : Unit) c3 => Option.bind (gR c3 v0 2 3) fun x4 => Option.bind (gR c3 x4 3 8) fun x5 => cV 4 x5 c3 (fX4_endsRule N x5 c3) fun (_ : Unit) c6 => some (.inl (), c6)
set_option maxRecDepth 100000 in
theorem wX2_readsRule_19 {Z : mm_Z} {X : mm_T} {k w mc ms d n N : Nat} {Q : mm_O → mm_H → Prop} (C : mm_Ok Z qX2_readsRule X) (hRm : mt_R X = mm_rm d mc ms) (hd : 100 ≤ d) (hn : n + 1 < 1000000) (hk : k + 1 ≤ mc) (hw : w + 6 ≤ ms) {v0 : Nat} {c : mm_C} (hf : hO 0 ovU n (bX2_readsRule_19 N  v0 c) Q) : mG Z qX2_readsRule X k w mc ms Q (19, [(0, .ref v0)], [], (n, c)) := by
  unfold bX2_readsRule_19 at hf
  refine mg_aload_n C rfl rfl ?_
  refine mh_gR C rfl rfl rfl (by decide) hf (fun x1 hf => ?_)
  refine mh_cVU (M' := qX10_advances) C rfl rfl aX10_advances iX10_advances sX10_advances hRm (by omega) (by decide) (by omega) (by omega) rfl rfl rfl (Nat.le_of_ble_eq_true rfl) rfl hf (fun hs => wX10_advances (by omega) (by omega) hs) (fun c2 hf => ?_)
  refine mg_aload_n C rfl rfl ?_
  refine mg_iconst (v := 0) C rfl (by decide) ?_
  refine mh_cVU (M' := qX2_readsExpr) C rfl rfl aX2_readsExpr iX2_readsExpr sX2_readsExpr hRm (by omega) (by decide) (by omega) (by omega) rfl rfl rfl (Nat.le_of_ble_eq_true rfl) rfl hf (fun hs => wX2_readsExpr (by omega) (by omega) hs) (fun c3 hf => ?_)
  refine mg_aload_n C rfl rfl ?_
  refine mh_gR C rfl rfl rfl (by decide) hf (fun x4 hf => ?_)
  refine mh_gR C rfl rfl rfl (by decide) hf (fun x5 hf => ?_)
  refine mh_cVU (M' := qX4_endsRule) C rfl rfl aX4_endsRule iX4_endsRule sX4_endsRule hRm (by omega) (by decide) (by omega) (by omega) rfl rfl rfl (Nat.le_of_ble_eq_true rfl) rfl hf (fun hs => wX4_endsRule (by omega) (by omega) hs) (fun c6 hf => ?_)
  exact mh_return C rfl (by omega) (by omega) rfl hf
def bX2_readsRule_0 (N : Nat)  (v0 : Nat) (c : mm_C) : mR Unit :=
  Option.bind (gR c v0 2 3) fun x1 => Option.bind (gR c x1 3 8) fun x2 => Option.bind (gI c x2 4 0) fun x3 => if x3 < (4 : Int32) then (bX2_readsRule_19 N  v0 c) else (cV 2 v0 c (fX2_refuses N v0 (2 : Int32) c) fun (_ : Unit) c4 => bX2_readsRule_19 N  v0 c4)
set_option maxRecDepth 100000 in
theorem wX2_readsRule_0 {Z : mm_Z} {X : mm_T} {k w mc ms d n N : Nat} {Q : mm_O → mm_H → Prop} (C : mm_Ok Z qX2_readsRule X) (hRm : mt_R X = mm_rm d mc ms) (hd : 100 ≤ d) (hn : n + 1 < 1000000) (hk : k + 1 ≤ mc) (hw : w + 6 ≤ ms) {v0 : Nat} {c : mm_C} (hf : hO 0 ovU n (bX2_readsRule_0 N  v0 c) Q) : mG Z qX2_readsRule X k w mc ms Q (0, [(0, .ref v0)], [], (n, c)) := by
  unfold bX2_readsRule_0 at hf
  refine mg_aload_n C rfl rfl ?_
  refine mh_gR C rfl rfl rfl (by decide) hf (fun x1 hf => ?_)
  refine mh_gR C rfl rfl rfl (by decide) hf (fun x2 hf => ?_)
  refine mh_gI C rfl rfl rfl (by decide) hf (fun x3 hf => ?_)
  refine mg_iconst (v := 4) C rfl (by decide) ?_
  refine mh_icmp_lt C rfl hf (fun e_11 hf => ?_) (fun e_11 hf => ?_)
  · exact wX2_readsRule_19 C hRm hd hn hk hw hf
  · refine mg_aload_n C rfl rfl ?_
    refine mg_iconst (v := 2) C rfl (by decide) ?_
    refine mh_cVU (M' := qX2_refuses) C rfl rfl aX2_refuses iX2_refuses sX2_refuses hRm (by omega) (by decide) (by omega) (by omega) rfl rfl rfl (Nat.le_of_ble_eq_true rfl) rfl hf (fun hs => wX2_refuses (by omega) (by omega) hs) (fun c4 hf => ?_)
    exact wX2_readsRule_19 C hRm hd hn hk hw hf
def fX2_readsRule (N : Nat) (v0 : Nat) (c : mm_C) : mR Unit := bX2_readsRule_0 N v0 c
set_option maxRecDepth 100000 in
theorem wX2_readsRule {Z : mm_Z} {d n N : Nat} (hd : 100 ≤ d) (hn : n + 1 < 1000000) {v0 : Nat} {c : mm_C} (hs : (fX2_readsRule N v0 c).isSome = true) : mC Z qX2_readsRule d 1 6 [.ref v0] (n, c) (mP 0 ovU n (fX2_readsRule N v0 c)) := by
  refine mC_of gX2_readsRule (by decide +kernel) (Nat.le_of_ble_eq_true rfl) fun X C hRm => ?_
  have hf := hO_mP 0 ovU n hs
  have hk : 0 + 1 ≤ 1 := Nat.le_of_ble_eq_true rfl
  have hw : 0 + 6 ≤ 6 := Nat.le_of_ble_eq_true rfl
  show mG _ _ _ _ _ _ _ _ (0, [(0, .ref v0)], [], (n, c))
  exact wX2_readsRule_0 C hRm hd hn hk hw hf
def bX2_readsEarlierShot_15 (N : Nat)  (v0 : Nat) (v2 : Int32) (c : mm_C) : mR Int32 :=
  Option.bind (gR c v0 2 2) fun x1 => cV 10 x1 c (fX10_advances N x1 c) fun (_ : Unit) c2 => some (.inl v2, c2)
set_option maxRecDepth 100000 in
theorem wX2_readsEarlierShot_15 {Z : mm_Z} {X : mm_T} {k w mc ms d n N : Nat} {Q : mm_O → mm_H → Prop} (C : mm_Ok Z qX2_readsEarlierShot X) (hRm : mt_R X = mm_rm d mc ms) (hd : 9 ≤ d) (hn : n + 1 < 1000000) (hk : k + 1 ≤ mc) (hw : w + 6 ≤ ms) {v0 : Nat} {v2 : Int32} {c : mm_C} (hf : hO 0 ovI n (bX2_readsEarlierShot_15 N  v0 v2 c) Q) : mG Z qX2_readsEarlierShot X k w mc ms Q (15, [(0, .ref v0), (2, .int v2)], [], (n, c)) := by
  unfold bX2_readsEarlierShot_15 at hf
  refine mg_aload_n C rfl rfl ?_
  refine mh_gR C rfl rfl rfl (by decide) hf (fun x1 hf => ?_)
  refine mh_cVU (M' := qX10_advances) C rfl rfl aX10_advances iX10_advances sX10_advances hRm (by omega) (by decide) (by omega) (by omega) rfl rfl rfl (Nat.le_of_ble_eq_true rfl) rfl hf (fun hs => wX10_advances (by omega) (by omega) hs) (fun c2 hf => ?_)
  refine mg_iload_n C rfl rfl ?_
  exact mh_ireturn C rfl (by omega) (by omega) rfl hf
def bX2_readsEarlierShot_0 (N : Nat)  (v0 : Nat) (v1 : Int32) (c : mm_C) : mR Int32 :=
  cV 2 v0 c (fX2_lookAtNumber N v0 c) fun r1 c2 => if r1 < v1 then (bX2_readsEarlierShot_15 N  v0 r1 c2) else (cV 2 v0 c2 (fX2_refuses N v0 (3 : Int32) c2) fun (_ : Unit) c3 => bX2_readsEarlierShot_15 N  v0 r1 c3)
set_option maxRecDepth 100000 in
theorem wX2_readsEarlierShot_0 {Z : mm_Z} {X : mm_T} {k w mc ms d n N : Nat} {Q : mm_O → mm_H → Prop} (C : mm_Ok Z qX2_readsEarlierShot X) (hRm : mt_R X = mm_rm d mc ms) (hd : 9 ≤ d) (hn : n + 1 < 1000000) (hk : k + 1 ≤ mc) (hw : w + 6 ≤ ms) {v0 : Nat} {v1 : Int32} {c : mm_C} (hf : hO 0 ovI n (bX2_readsEarlierShot_0 N  v0 v1 c) Q) : mG Z qX2_readsEarlierShot X k w mc ms Q (0, [(0, .ref v0), (1, .int v1)], [], (n, c)) := by
  unfold bX2_readsEarlierShot_0 at hf
  refine mg_aload_n C rfl rfl ?_
  refine mh_cVI (M' := qX2_lookAtNumber) C rfl rfl aX2_lookAtNumber iX2_lookAtNumber sX2_lookAtNumber hRm (by omega) (by decide) (by omega) (by omega) rfl rfl rfl (Nat.le_of_ble_eq_true rfl) rfl hf (fun hs => wX2_lookAtNumber (by omega) (by omega) hs) (fun r1 c2 hf => ?_)
  refine mg_istore_n (lv' := [(0, .ref v0), (1, .int v1), (2, .int r1)]) C rfl (Nat.le_of_ble_eq_true rfl) rfl ?_
  refine mg_iload_n C rfl rfl ?_
  refine mg_iload_n C rfl rfl ?_
  refine mh_icmp_lt C rfl hf (fun e_7 hf => ?_) (fun e_7 hf => ?_)
  · refine mg_sub (lv' := [(0, .ref v0), (2, .int r1)]) (by simp) ?_
    exact wX2_readsEarlierShot_15 C hRm hd hn hk hw hf
  · refine mg_aload_n C rfl rfl ?_
    refine mg_iconst (v := 3) C rfl (by decide) ?_
    refine mh_cVU (M' := qX2_refuses) C rfl rfl aX2_refuses iX2_refuses sX2_refuses hRm (by omega) (by decide) (by omega) (by omega) rfl rfl rfl (Nat.le_of_ble_eq_true rfl) rfl hf (fun hs => wX2_refuses (by omega) (by omega) hs) (fun c3 hf => ?_)
    refine mg_sub (lv' := [(0, .ref v0), (2, .int r1)]) (by simp) ?_
    exact wX2_readsEarlierShot_15 C hRm hd hn hk hw hf
def fX2_readsEarlierShot (N : Nat) (v0 : Nat) (v1 : Int32) (c : mm_C) : mR Int32 := bX2_readsEarlierShot_0 N v0 v1 c
set_option maxRecDepth 100000 in
theorem wX2_readsEarlierShot {Z : mm_Z} {d n N : Nat} (hd : 9 ≤ d) (hn : n + 1 < 1000000) {v0 : Nat} {v1 : Int32} {c : mm_C} (hs : (fX2_readsEarlierShot N v0 v1 c).isSome = true) : mC Z qX2_readsEarlierShot d 1 6 [.ref v0, .int v1] (n, c) (mP 0 ovI n (fX2_readsEarlierShot N v0 v1 c)) := by
  refine mC_of gX2_readsEarlierShot (by decide +kernel) (Nat.le_of_ble_eq_true rfl) fun X C hRm => ?_
  have hf := hO_mP 0 ovI n hs
  have hk : 0 + 1 ≤ 1 := Nat.le_of_ble_eq_true rfl
  have hw : 0 + 6 ≤ 6 := Nat.le_of_ble_eq_true rfl
  show mG _ _ _ _ _ _ _ _ (0, [(0, .ref v0), (1, .int v1)], [], (n, c))
  exact wX2_readsEarlierShot_0 C hRm hd hn hk hw hf
def bX2_readsShot_19 (N : Nat)  (v0 : Nat) (v1 : Int32) (v2 : Int32) (c : mm_C) : mR Unit :=
  Option.bind (gR c v0 2 2) fun x1 => cV 10 x1 c (fX10_advances N x1 c) fun (_ : Unit) c2 => Option.bind (gR c2 v0 2 3) fun x3 => cV 3 x3 c2 (fX3_addShot N x3 c2) fun r4 c5 => Option.bind (pI c5 r4 7 0 v1) fun c6 => cV 2 v0 c6 (fX2_readsNumber N v0 (0 : Int32) (2 : Int32) c6) fun r7 c8 => Option.bind (pI c8 r4 7 1 r7) fun c9 => cV 2 v0 c9 (fX2_readsNumber N v0 (1 : Int32) (30 : Int32) c9) fun r10 c11 => Option.bind (pI c11 r4 7 2 r10) fun c12 => cV 2 v0 c12 (fX2_readsNumber N v0 (0 : Int32) (480 : Int32) c12) fun r13 c14 => Option.bind (pI c14 r4 7 3 r13) fun c15 => Option.bind (gI c15 r4 7 3) fun x16 => cV 2 v0 c15 (fX2_readsNumber N v0 x16 (480 : Int32) c15) fun r17 c18 => Option.bind (pI c18 r4 7 4 r17) fun c19 => Option.bind (pI c19 r4 7 5 (-1 : Int32)) fun c20 => Option.bind (gR c20 v0 2 2) fun x21 => cV 10 x21 c20 (fX10_isWord N x21 (1000000 + 4) c20) fun r22 c23 => if r22 = 0 then (some (.inl (), c23)) else (Option.bind (gR c23 v0 2 2) fun x24 => cV 10 x24 c23 (fX10_advances N x24 c23) fun (_ : Unit) c25 => cV 2 v0 c25 (fX2_readsEarlierShot N v0 v2 c25) fun r26 c27 => Option.bind (pI c27 r4 7 5 r26) fun c28 => some (.inl (), c28))
set_option maxRecDepth 100000 in
theorem wX2_readsShot_19 {Z : mm_Z} {X : mm_T} {k w mc ms d n N : Nat} {Q : mm_O → mm_H → Prop} (C : mm_Ok Z qX2_readsShot X) (hRm : mt_R X = mm_rm d mc ms) (hd : 10 ≤ d) (hn : n + 1 < 1000000) (hk : k + 1 ≤ mc) (hw : w + 6 ≤ ms) {v0 : Nat} {v1 : Int32} {v2 : Int32} {c : mm_C} (hf : hO 0 ovU n (bX2_readsShot_19 N  v0 v1 v2 c) Q) : mG Z qX2_readsShot X k w mc ms Q (19, [(0, .ref v0), (1, .int v1), (2, .int v2)], [], (n, c)) := by
  unfold bX2_readsShot_19 at hf
  refine mg_aload_n C rfl rfl ?_
  refine mh_gR C rfl rfl rfl (by decide) hf (fun x1 hf => ?_)
  refine mh_cVU (M' := qX10_advances) C rfl rfl aX10_advances iX10_advances sX10_advances hRm (by omega) (by decide) (by omega) (by omega) rfl rfl rfl (Nat.le_of_ble_eq_true rfl) rfl hf (fun hs => wX10_advances (by omega) (by omega) hs) (fun c2 hf => ?_)
  refine mg_aload_n C rfl rfl ?_
  refine mh_gR C rfl rfl rfl (by decide) hf (fun x3 hf => ?_)
  refine mh_cVR (M' := qX3_addShot) C rfl rfl aX3_addShot iX3_addShot sX3_addShot hRm (by omega) (by decide) (by omega) (by omega) rfl rfl rfl (Nat.le_of_ble_eq_true rfl) rfl hf (fun hs => wX3_addShot (by omega) (by omega) hs) (fun r4 c5 hf => ?_)
  refine mg_astore_n (lv' := [(0, .ref v0), (1, .int v1), (2, .int v2), (3, .ref r4)]) C rfl (Nat.le_of_ble_eq_true rfl) rfl ?_
  refine mg_aload_n C rfl rfl ?_
  refine mg_iload_n C rfl rfl ?_
  refine mh_pI C rfl rfl rfl (by decide) rfl rfl rfl hf (fun c6 hf => ?_)
  refine mg_aload_n C rfl rfl ?_
  refine mg_aload_n C rfl rfl ?_
  refine mg_iconst (v := 0) C rfl (by decide) ?_
  refine mg_iconst (v := 2) C rfl (by decide) ?_
  refine mh_cVI (M' := qX2_readsNumber) C rfl rfl aX2_readsNumber iX2_readsNumber sX2_readsNumber hRm (by omega) (by decide) (by omega) (by omega) rfl rfl rfl (Nat.le_of_ble_eq_true rfl) rfl hf (fun hs => wX2_readsNumber (by omega) (by omega) hs) (fun r7 c8 hf => ?_)
  refine mh_pI C rfl rfl rfl (by decide) rfl rfl rfl hf (fun c9 hf => ?_)
  refine mg_aload_n C rfl rfl ?_
  refine mg_aload_n C rfl rfl ?_
  refine mg_iconst (v := 1) C rfl (by decide) ?_
  refine mg_bipush (v := 30) C rfl (by decide) ?_
  refine mh_cVI (M' := qX2_readsNumber) C rfl rfl aX2_readsNumber iX2_readsNumber sX2_readsNumber hRm (by omega) (by decide) (by omega) (by omega) rfl rfl rfl (Nat.le_of_ble_eq_true rfl) rfl hf (fun hs => wX2_readsNumber (by omega) (by omega) hs) (fun r10 c11 hf => ?_)
  refine mh_pI C rfl rfl rfl (by decide) rfl rfl rfl hf (fun c12 hf => ?_)
  refine mg_aload_n C rfl rfl ?_
  refine mg_aload_n C rfl rfl ?_
  refine mg_iconst (v := 0) C rfl (by decide) ?_
  refine mg_sipush (v := 480) C rfl (by decide) ?_
  refine mh_cVI (M' := qX2_readsNumber) C rfl rfl aX2_readsNumber iX2_readsNumber sX2_readsNumber hRm (by omega) (by decide) (by omega) (by omega) rfl rfl rfl (Nat.le_of_ble_eq_true rfl) rfl hf (fun hs => wX2_readsNumber (by omega) (by omega) hs) (fun r13 c14 hf => ?_)
  refine mh_pI C rfl rfl rfl (by decide) rfl rfl rfl hf (fun c15 hf => ?_)
  refine mg_aload_n C rfl rfl ?_
  refine mg_aload_n C rfl rfl ?_
  refine mg_aload_n C rfl rfl ?_
  refine mh_gI C rfl rfl rfl (by decide) hf (fun x16 hf => ?_)
  refine mg_sipush (v := 480) C rfl (by decide) ?_
  refine mh_cVI (M' := qX2_readsNumber) C rfl rfl aX2_readsNumber iX2_readsNumber sX2_readsNumber hRm (by omega) (by decide) (by omega) (by omega) rfl rfl rfl (Nat.le_of_ble_eq_true rfl) rfl hf (fun hs => wX2_readsNumber (by omega) (by omega) hs) (fun r17 c18 hf => ?_)
  refine mh_pI C rfl rfl rfl (by decide) rfl rfl rfl hf (fun c19 hf => ?_)
  refine mg_aload_n C rfl rfl ?_
  refine mg_iconst (v := (-1)) C rfl (by decide) ?_
  refine mh_pI C rfl rfl rfl (by decide) rfl rfl rfl hf (fun c20 hf => ?_)
  refine mg_aload_n C rfl rfl ?_
  refine mh_gR C rfl rfl rfl (by decide) hf (fun x21 hf => ?_)
  refine mg_ldcS (i := 4) (tx := "after") C rfl (by decide) ?_
  refine mh_cVI (M' := qX10_isWord) C rfl rfl aX10_isWord iX10_isWord sX10_isWord hRm (by omega) (by decide) (by omega) (by omega) rfl rfl rfl (Nat.le_of_ble_eq_true rfl) rfl hf (fun hs => wX10_isWord (by omega) (by omega) hs) (fun r22 c23 hf => ?_)
  refine mh_if_eq C rfl hf (fun e_101 hf => ?_) (fun e_101 hf => ?_)
  · exact mh_return C rfl (by omega) (by omega) rfl hf
  · refine mg_aload_n C rfl rfl ?_
    refine mh_gR C rfl rfl rfl (by decide) hf (fun x24 hf => ?_)
    refine mh_cVU (M' := qX10_advances) C rfl rfl aX10_advances iX10_advances sX10_advances hRm (by omega) (by decide) (by omega) (by omega) rfl rfl rfl (Nat.le_of_ble_eq_true rfl) rfl hf (fun hs => wX10_advances (by omega) (by omega) hs) (fun c25 hf => ?_)
    refine mg_aload_n C rfl rfl ?_
    refine mg_aload_n C rfl rfl ?_
    refine mg_iload_n C rfl rfl ?_
    refine mh_cVI (M' := qX2_readsEarlierShot) C rfl rfl aX2_readsEarlierShot iX2_readsEarlierShot sX2_readsEarlierShot hRm (by omega) (by decide) (by omega) (by omega) rfl rfl rfl (Nat.le_of_ble_eq_true rfl) rfl hf (fun hs => wX2_readsEarlierShot (by omega) (by omega) hs) (fun r26 c27 hf => ?_)
    refine mh_pI C rfl rfl rfl (by decide) rfl rfl rfl hf (fun c28 hf => ?_)
    exact mh_return C rfl (by omega) (by omega) rfl hf
def bX2_readsShot_0 (N : Nat)  (v0 : Nat) (v1 : Int32) (c : mm_C) : mR Unit :=
  Option.bind (gR c v0 2 3) fun x1 => Option.bind (gI c x1 3 3) fun x2 => if x2 < (8 : Int32) then (bX2_readsShot_19 N  v0 v1 x2 c) else (cV 2 v0 c (fX2_refuses N v0 (2 : Int32) c) fun (_ : Unit) c3 => bX2_readsShot_19 N  v0 v1 x2 c3)
set_option maxRecDepth 100000 in
theorem wX2_readsShot_0 {Z : mm_Z} {X : mm_T} {k w mc ms d n N : Nat} {Q : mm_O → mm_H → Prop} (C : mm_Ok Z qX2_readsShot X) (hRm : mt_R X = mm_rm d mc ms) (hd : 10 ≤ d) (hn : n + 1 < 1000000) (hk : k + 1 ≤ mc) (hw : w + 6 ≤ ms) {v0 : Nat} {v1 : Int32} {c : mm_C} (hf : hO 0 ovU n (bX2_readsShot_0 N  v0 v1 c) Q) : mG Z qX2_readsShot X k w mc ms Q (0, [(0, .ref v0), (1, .int v1)], [], (n, c)) := by
  unfold bX2_readsShot_0 at hf
  refine mg_aload_n C rfl rfl ?_
  refine mh_gR C rfl rfl rfl (by decide) hf (fun x1 hf => ?_)
  refine mh_gI C rfl rfl rfl (by decide) hf (fun x2 hf => ?_)
  refine mg_istore_n (lv' := [(0, .ref v0), (1, .int v1), (2, .int x2)]) C rfl (Nat.le_of_ble_eq_true rfl) rfl ?_
  refine mg_iload_n C rfl rfl ?_
  refine mg_bipush (v := 8) C rfl (by decide) ?_
  refine mh_icmp_lt C rfl hf (fun e_11 hf => ?_) (fun e_11 hf => ?_)
  · exact wX2_readsShot_19 C hRm hd hn hk hw hf
  · refine mg_aload_n C rfl rfl ?_
    refine mg_iconst (v := 2) C rfl (by decide) ?_
    refine mh_cVU (M' := qX2_refuses) C rfl rfl aX2_refuses iX2_refuses sX2_refuses hRm (by omega) (by decide) (by omega) (by omega) rfl rfl rfl (Nat.le_of_ble_eq_true rfl) rfl hf (fun hs => wX2_refuses (by omega) (by omega) hs) (fun c3 hf => ?_)
    exact wX2_readsShot_19 C hRm hd hn hk hw hf
def fX2_readsShot (N : Nat) (v0 : Nat) (v1 : Int32) (c : mm_C) : mR Unit := bX2_readsShot_0 N v0 v1 c
set_option maxRecDepth 100000 in
theorem wX2_readsShot {Z : mm_Z} {d n N : Nat} (hd : 10 ≤ d) (hn : n + 1 < 1000000) {v0 : Nat} {v1 : Int32} {c : mm_C} (hs : (fX2_readsShot N v0 v1 c).isSome = true) : mC Z qX2_readsShot d 1 6 [.ref v0, .int v1] (n, c) (mP 0 ovU n (fX2_readsShot N v0 v1 c)) := by
  refine mC_of gX2_readsShot (by decide +kernel) (Nat.le_of_ble_eq_true rfl) fun X C hRm => ?_
  have hf := hO_mP 0 ovU n hs
  have hk : 0 + 1 ≤ 1 := Nat.le_of_ble_eq_true rfl
  have hw : 0 + 6 ≤ 6 := Nat.le_of_ble_eq_true rfl
  show mG _ _ _ _ _ _ _ _ (0, [(0, .ref v0), (1, .int v1)], [], (n, c))
  exact wX2_readsShot_0 C hRm hd hn hk hw hf
def bX2_readsLine_76 (N : Nat)  (v0 : Nat) (v1 : Int32) (c : mm_C) : mR Unit :=
  cV 2 v0 c (fX2_readsShot N v0 (v1 - (2 : Int32)) c) fun (_ : Unit) c1 => some (.inl (), c1)
set_option maxRecDepth 100000 in
theorem wX2_readsLine_76 {Z : mm_Z} {X : mm_T} {k w mc ms d n N : Nat} {Q : mm_O → mm_H → Prop} (C : mm_Ok Z qX2_readsLine X) (hRm : mt_R X = mm_rm d mc ms) (hd : 101 ≤ d) (hn : n + 1 < 1000000) (hk : k + 1 ≤ mc) (hw : w + 6 ≤ ms) {v0 : Nat} {v1 : Int32} {c : mm_C} (hf : hO 0 ovU n (bX2_readsLine_76 N  v0 v1 c) Q) : mG Z qX2_readsLine X k w mc ms Q (76, [(0, .ref v0), (1, .int v1)], [], (n, c)) := by
  unfold bX2_readsLine_76 at hf
  refine mg_aload_n C rfl rfl ?_
  refine mg_iload_n C rfl rfl ?_
  refine mg_iconst (v := 2) C rfl (by decide) ?_
  refine mg_isub C rfl ?_
  refine mh_cVU (M' := qX2_readsShot) C rfl rfl aX2_readsShot iX2_readsShot sX2_readsShot hRm (by omega) (by decide) (by omega) (by omega) rfl rfl rfl (Nat.le_of_ble_eq_true rfl) rfl hf (fun hs => wX2_readsShot (by omega) (by omega) hs) (fun c1 hf => ?_)
  refine mg_goto C rfl ?_
  exact mh_return C rfl (by omega) (by omega) rfl hf
def bX2_readsLine_70 (N : Nat)  (s0 : Nat) (s1 : Int32) (c : mm_C) : mR Unit :=
  cV 2 s0 c (fX2_readsPart N s0 s1 c) fun (_ : Unit) c1 => some (.inl (), c1)
set_option maxRecDepth 100000 in
theorem wX2_readsLine_70 {Z : mm_Z} {X : mm_T} {k w mc ms d n N : Nat} {Q : mm_O → mm_H → Prop} (C : mm_Ok Z qX2_readsLine X) (hRm : mt_R X = mm_rm d mc ms) (hd : 101 ≤ d) (hn : n + 1 < 1000000) (hk : k + 1 ≤ mc) (hw : w + 6 ≤ ms) {s0 : Nat} {s1 : Int32} {c : mm_C} (hf : hO 0 ovU n (bX2_readsLine_70 N  s0 s1 c) Q) : mG Z qX2_readsLine X k w mc ms Q (70, [], [.int s1, .ref s0], (n, c)) := by
  unfold bX2_readsLine_70 at hf
  refine mh_cVU (M' := qX2_readsPart) C rfl rfl aX2_readsPart iX2_readsPart sX2_readsPart hRm (by omega) (by decide) (by omega) (by omega) rfl rfl rfl (Nat.le_of_ble_eq_true rfl) rfl hf (fun hs => wX2_readsPart (by omega) (by omega) hs) (fun c1 hf => ?_)
  refine mg_goto C rfl ?_
  exact mh_return C rfl (by omega) (by omega) rfl hf
def bX2_readsLine_60 (N : Nat)  (v0 : Nat) (v1 : Int32) (c : mm_C) : mR Unit :=
  if ¬ v1 = 0 then (bX2_readsLine_70 N  v0 (0 : Int32) c) else (bX2_readsLine_70 N  v0 (1 : Int32) c)
set_option maxRecDepth 100000 in
theorem wX2_readsLine_60 {Z : mm_Z} {X : mm_T} {k w mc ms d n N : Nat} {Q : mm_O → mm_H → Prop} (C : mm_Ok Z qX2_readsLine X) (hRm : mt_R X = mm_rm d mc ms) (hd : 101 ≤ d) (hn : n + 1 < 1000000) (hk : k + 1 ≤ mc) (hw : w + 6 ≤ ms) {v0 : Nat} {v1 : Int32} {c : mm_C} (hf : hO 0 ovU n (bX2_readsLine_60 N  v0 v1 c) Q) : mG Z qX2_readsLine X k w mc ms Q (60, [(0, .ref v0), (1, .int v1)], [], (n, c)) := by
  unfold bX2_readsLine_60 at hf
  refine mg_aload_n C rfl rfl ?_
  refine mg_iload_n C rfl rfl ?_
  refine mh_if_ne C rfl hf (fun e_62 hf => ?_) (fun e_62 hf => ?_)
  · refine mg_iconst (v := 0) C rfl (by decide) ?_
    refine mg_sub (lv' := []) (by simp) ?_
    exact wX2_readsLine_70 C hRm hd hn hk hw hf
  · refine mg_iconst (v := 1) C rfl (by decide) ?_
    refine mg_goto C rfl ?_
    refine mg_sub (lv' := []) (by simp) ?_
    exact wX2_readsLine_70 C hRm hd hn hk hw hf
def bX2_readsLine_0 (N : Nat)  (v0 : Nat) (c : mm_C) : mR Unit :=
  Option.bind (gR c v0 2 2) fun x1 => cV 10 x1 c (fX10_indexIn N x1 (1000000 + 2) c) fun r2 c3 => if r2 = (0 : Int32) then (bX2_readsLine_60 N  v0 r2 c3) else (if r2 = (1 : Int32) then (bX2_readsLine_60 N  v0 r2 c3) else (if r2 = (2 : Int32) then (bX2_readsLine_76 N  v0 r2 c3) else (if r2 = (3 : Int32) then (bX2_readsLine_76 N  v0 r2 c3) else (if r2 = (4 : Int32) then (bX2_readsLine_76 N  v0 r2 c3) else (if r2 = (5 : Int32) then (Option.bind (gR c3 v0 2 3) fun x4 => Option.bind (gI c3 v0 2 4) fun x5 => cV 2 v0 c3 (fX2_readsOnce N v0 x5 (10 : Int32) (480 : Int32) c3) fun r6 c7 => Option.bind (pI c7 x4 3 0 r6) fun c8 => Option.bind (pZ c8 v0 2 4 (1 : Int32)) fun c9 => some (.inl (), c9)) else (if r2 = (6 : Int32) then (Option.bind (gR c3 v0 2 3) fun x10 => Option.bind (gI c3 v0 2 5) fun x11 => cV 2 v0 c3 (fX2_readsOnce N v0 x11 (0 : Int32) (120 : Int32) c3) fun r12 c13 => Option.bind (pI c13 x10 3 1 r12) fun c14 => Option.bind (pZ c14 v0 2 5 (1 : Int32)) fun c15 => some (.inl (), c15)) else (if r2 = (7 : Int32) then (Option.bind (gR c3 v0 2 3) fun x16 => Option.bind (gI c3 v0 2 6) fun x17 => cV 2 v0 c3 (fX2_readsOnce N v0 x17 (0 : Int32) (9 : Int32) c3) fun r18 c19 => Option.bind (pI c19 x16 3 2 r18) fun c20 => Option.bind (pZ c20 v0 2 6 (1 : Int32)) fun c21 => some (.inl (), c21)) else (if r2 = (8 : Int32) then (cV 2 v0 c3 (fX2_readsRule N v0 c3) fun (_ : Unit) c22 => some (.inl (), c22)) else (cV 2 v0 c3 (fX2_refuses N v0 (1 : Int32) c3) fun (_ : Unit) c23 => some (.inl (), c23))))))))))
set_option maxRecDepth 100000 in
theorem wX2_readsLine_0 {Z : mm_Z} {X : mm_T} {k w mc ms d n N : Nat} {Q : mm_O → mm_H → Prop} (C : mm_Ok Z qX2_readsLine X) (hRm : mt_R X = mm_rm d mc ms) (hd : 101 ≤ d) (hn : n + 1 < 1000000) (hk : k + 1 ≤ mc) (hw : w + 6 ≤ ms) {v0 : Nat} {c : mm_C} (hf : hO 0 ovU n (bX2_readsLine_0 N  v0 c) Q) : mG Z qX2_readsLine X k w mc ms Q (0, [(0, .ref v0)], [], (n, c)) := by
  unfold bX2_readsLine_0 at hf
  refine mg_aload_n C rfl rfl ?_
  refine mh_gR C rfl rfl rfl (by decide) hf (fun x1 hf => ?_)
  refine mg_ldcS (i := 2) (tx := "sun cloud wide near inside day move cold rule ") C rfl (by decide) ?_
  refine mh_cVI (M' := qX10_indexIn) C rfl rfl aX10_indexIn iX10_indexIn sX10_indexIn hRm (by omega) (by decide) (by omega) (by omega) rfl rfl rfl (Nat.le_of_ble_eq_true rfl) rfl hf (fun hs => wX10_indexIn (by omega) (by omega) hs) (fun r2 c3 hf => ?_)
  refine mg_istore_n (lv' := [(0, .ref v0), (1, .int r2)]) C rfl (Nat.le_of_ble_eq_true rfl) rfl ?_
  refine mg_iload_n C rfl rfl ?_
  refine mh_case hf (fun e_11 hf => ?_) (fun n_1000 hf => ?_)
  · refine mg_tabIn e_11 (tgt := 60) C rfl (by decide) (by decide) rfl (by decide) ?_
    exact wX2_readsLine_60 C hRm hd hn hk hw hf
  refine mh_case hf (fun e_11 hf => ?_) (fun n_1001 hf => ?_)
  · refine mg_tabIn e_11 (tgt := 60) C rfl (by decide) (by decide) rfl (by decide) ?_
    exact wX2_readsLine_60 C hRm hd hn hk hw hf
  refine mh_case hf (fun e_11 hf => ?_) (fun n_1002 hf => ?_)
  · refine mg_tabIn e_11 (tgt := 76) C rfl (by decide) (by decide) rfl (by decide) ?_
    exact wX2_readsLine_76 C hRm hd hn hk hw hf
  refine mh_case hf (fun e_11 hf => ?_) (fun n_1003 hf => ?_)
  · refine mg_tabIn e_11 (tgt := 76) C rfl (by decide) (by decide) rfl (by decide) ?_
    exact wX2_readsLine_76 C hRm hd hn hk hw hf
  refine mh_case hf (fun e_11 hf => ?_) (fun n_1004 hf => ?_)
  · refine mg_tabIn e_11 (tgt := 76) C rfl (by decide) (by decide) rfl (by decide) ?_
    exact wX2_readsLine_76 C hRm hd hn hk hw hf
  refine mh_case hf (fun e_11 hf => ?_) (fun n_1005 hf => ?_)
  · refine mg_tabIn e_11 (tgt := 86) C rfl (by decide) (by decide) rfl (by decide) ?_
    refine mg_aload_n C rfl rfl ?_
    refine mh_gR C rfl rfl rfl (by decide) hf (fun x4 hf => ?_)
    refine mg_aload_n C rfl rfl ?_
    refine mg_aload_n C rfl rfl ?_
    refine mh_gI C rfl rfl rfl (by decide) hf (fun x5 hf => ?_)
    refine mg_bipush (v := 10) C rfl (by decide) ?_
    refine mg_sipush (v := 480) C rfl (by decide) ?_
    refine mh_cVI (M' := qX2_readsOnce) C rfl rfl aX2_readsOnce iX2_readsOnce sX2_readsOnce hRm (by omega) (by decide) (by omega) (by omega) rfl rfl rfl (Nat.le_of_ble_eq_true rfl) rfl hf (fun hs => wX2_readsOnce (by omega) (by omega) hs) (fun r6 c7 hf => ?_)
    refine mh_pI C rfl rfl rfl (by decide) rfl rfl rfl hf (fun c8 hf => ?_)
    refine mg_aload_n C rfl rfl ?_
    refine mg_iconst (v := 1) C rfl (by decide) ?_
    refine mh_pZ C rfl rfl rfl (by decide) rfl rfl hf (fun c9 hf => ?_)
    refine mg_goto C rfl ?_
    exact mh_return C rfl (by omega) (by omega) rfl hf
  refine mh_case hf (fun e_11 hf => ?_) (fun n_1006 hf => ?_)
  · refine mg_tabIn e_11 (tgt := 114) C rfl (by decide) (by decide) rfl (by decide) ?_
    refine mg_aload_n C rfl rfl ?_
    refine mh_gR C rfl rfl rfl (by decide) hf (fun x10 hf => ?_)
    refine mg_aload_n C rfl rfl ?_
    refine mg_aload_n C rfl rfl ?_
    refine mh_gI C rfl rfl rfl (by decide) hf (fun x11 hf => ?_)
    refine mg_iconst (v := 0) C rfl (by decide) ?_
    refine mg_bipush (v := 120) C rfl (by decide) ?_
    refine mh_cVI (M' := qX2_readsOnce) C rfl rfl aX2_readsOnce iX2_readsOnce sX2_readsOnce hRm (by omega) (by decide) (by omega) (by omega) rfl rfl rfl (Nat.le_of_ble_eq_true rfl) rfl hf (fun hs => wX2_readsOnce (by omega) (by omega) hs) (fun r12 c13 hf => ?_)
    refine mh_pI C rfl rfl rfl (by decide) rfl rfl rfl hf (fun c14 hf => ?_)
    refine mg_aload_n C rfl rfl ?_
    refine mg_iconst (v := 1) C rfl (by decide) ?_
    refine mh_pZ C rfl rfl rfl (by decide) rfl rfl hf (fun c15 hf => ?_)
    refine mg_goto C rfl ?_
    exact mh_return C rfl (by omega) (by omega) rfl hf
  refine mh_case hf (fun e_11 hf => ?_) (fun n_1007 hf => ?_)
  · refine mg_tabIn e_11 (tgt := 140) C rfl (by decide) (by decide) rfl (by decide) ?_
    refine mg_aload_n C rfl rfl ?_
    refine mh_gR C rfl rfl rfl (by decide) hf (fun x16 hf => ?_)
    refine mg_aload_n C rfl rfl ?_
    refine mg_aload_n C rfl rfl ?_
    refine mh_gI C rfl rfl rfl (by decide) hf (fun x17 hf => ?_)
    refine mg_iconst (v := 0) C rfl (by decide) ?_
    refine mg_bipush (v := 9) C rfl (by decide) ?_
    refine mh_cVI (M' := qX2_readsOnce) C rfl rfl aX2_readsOnce iX2_readsOnce sX2_readsOnce hRm (by omega) (by decide) (by omega) (by omega) rfl rfl rfl (Nat.le_of_ble_eq_true rfl) rfl hf (fun hs => wX2_readsOnce (by omega) (by omega) hs) (fun r18 c19 hf => ?_)
    refine mh_pI C rfl rfl rfl (by decide) rfl rfl rfl hf (fun c20 hf => ?_)
    refine mg_aload_n C rfl rfl ?_
    refine mg_iconst (v := 1) C rfl (by decide) ?_
    refine mh_pZ C rfl rfl rfl (by decide) rfl rfl hf (fun c21 hf => ?_)
    refine mg_goto C rfl ?_
    exact mh_return C rfl (by omega) (by omega) rfl hf
  refine mh_case hf (fun e_11 hf => ?_) (fun n_1008 hf => ?_)
  · refine mg_tabIn e_11 (tgt := 166) C rfl (by decide) (by decide) rfl (by decide) ?_
    refine mg_aload_n C rfl rfl ?_
    refine mh_cVU (M' := qX2_readsRule) C rfl rfl aX2_readsRule iX2_readsRule sX2_readsRule hRm (by omega) (by decide) (by omega) (by omega) rfl rfl rfl (Nat.le_of_ble_eq_true rfl) rfl hf (fun hs => wX2_readsRule (by omega) (by omega) hs) (fun c22 hf => ?_)
    refine mg_goto C rfl ?_
    exact mh_return C rfl (by omega) (by omega) rfl hf
  refine mg_tableOut (tgt := 173) C rfl (tsw_out [0, 1, 2, 3, 4, 5, 6, 7, 8] (by decide) (List.forall_mem_cons.mpr ⟨n_1000, List.forall_mem_cons.mpr ⟨n_1001, List.forall_mem_cons.mpr ⟨n_1002, List.forall_mem_cons.mpr ⟨n_1003, List.forall_mem_cons.mpr ⟨n_1004, List.forall_mem_cons.mpr ⟨n_1005, List.forall_mem_cons.mpr ⟨n_1006, List.forall_mem_cons.mpr ⟨n_1007, List.forall_mem_cons.mpr ⟨n_1008, List.forall_mem_nil _⟩⟩⟩⟩⟩⟩⟩⟩⟩)) (by decide) ?_
  refine mg_aload_n C rfl rfl ?_
  refine mg_iconst (v := 1) C rfl (by decide) ?_
  refine mh_cVU (M' := qX2_refuses) C rfl rfl aX2_refuses iX2_refuses sX2_refuses hRm (by omega) (by decide) (by omega) (by omega) rfl rfl rfl (Nat.le_of_ble_eq_true rfl) rfl hf (fun hs => wX2_refuses (by omega) (by omega) hs) (fun c23 hf => ?_)
  exact mh_return C rfl (by omega) (by omega) rfl hf
def fX2_readsLine (N : Nat) (v0 : Nat) (c : mm_C) : mR Unit := bX2_readsLine_0 N v0 c
set_option maxRecDepth 100000 in
theorem wX2_readsLine {Z : mm_Z} {d n N : Nat} (hd : 101 ≤ d) (hn : n + 1 < 1000000) {v0 : Nat} {c : mm_C} (hs : (fX2_readsLine N v0 c).isSome = true) : mC Z qX2_readsLine d 1 6 [.ref v0] (n, c) (mP 0 ovU n (fX2_readsLine N v0 c)) := by
  refine mC_of gX2_readsLine (by decide +kernel) (Nat.le_of_ble_eq_true rfl) fun X C hRm => ?_
  have hf := hO_mP 0 ovU n hs
  have hk : 0 + 1 ≤ 1 := Nat.le_of_ble_eq_true rfl
  have hw : 0 + 6 ≤ 6 := Nat.le_of_ble_eq_true rfl
  show mG _ _ _ _ _ _ _ _ (0, [(0, .ref v0)], [], (n, c))
  exact wX2_readsLine_0 C hRm hd hn hk hw hf
def bX2_readsLines_40 (N : Nat)  (k2 : Nat → Int32 → mm_C → mR Unit) (v0 : Nat) (v1 : Int32) (c : mm_C) : mR Unit :=
  Option.bind (gR c v0 2 2) fun x1 => cV 10 x1 c (fX10_advances N x1 c) fun (_ : Unit) c2 => k2 v0 (v1 + 1) c2
set_option maxRecDepth 100000 in
theorem wX2_readsLines_40 {Z : mm_Z} {X : mm_T} {k w mc ms d n N : Nat} {Q : mm_O → mm_H → Prop} (C : mm_Ok Z qX2_readsLines X) (hRm : mt_R X = mm_rm d mc ms) (hd : 102 ≤ d) (hn : n + 1 < 1000000) (hk : k + 1 ≤ mc) (hw : w + 6 ≤ ms) {k2 : Nat → Int32 → mm_C → mR Unit} (hk2 : ∀ (v0 : Nat) (v1 : Int32) (c : mm_C), hO 0 ovU n (k2 v0 v1 c) Q → mG Z qX2_readsLines X k w mc ms Q (2, [(0, .ref v0), (1, .int v1)], [], (n, c))) {v0 : Nat} {v1 : Int32} {c : mm_C} (hf : hO 0 ovU n (bX2_readsLines_40 N  k2 v0 v1 c) Q) : mG Z qX2_readsLines X k w mc ms Q (40, [(0, .ref v0), (1, .int v1)], [], (n, c)) := by
  unfold bX2_readsLines_40 at hf
  refine mg_aload_n C rfl rfl ?_
  refine mh_gR C rfl rfl rfl (by decide) hf (fun x1 hf => ?_)
  refine mh_cVU (M' := qX10_advances) C rfl rfl aX10_advances iX10_advances sX10_advances hRm (by omega) (by decide) (by omega) (by omega) rfl rfl rfl (Nat.le_of_ble_eq_true rfl) rfl hf (fun hs => wX10_advances (by omega) (by omega) hs) (fun c2 hf => ?_)
  refine mg_iinc (lv' := [(0, .ref v0), (1, .int (v1 + 1))]) C rfl (Nat.le_of_ble_eq_true rfl) rfl (show _ + Int32.ofInt 1 = _ + 1 by congr 1) rfl ?_
  refine mg_goto C rfl ?_
  exact hk2 _ _ _ hf
def bX2_readsLines_2 (N : Nat)  (k2 : Nat → Int32 → mm_C → mR Unit) (v0 : Nat) (v1 : Int32) (c : mm_C) : mR Unit :=
  if (700 : Int32) ≤ v1 then (some (.inl (), c)) else (Option.bind (gR c v0 2 2) fun x1 => Option.bind (gI c x1 10 0) fun x2 => if x2 = 0 then (some (.inl (), c)) else (cV 2 v0 c (fX2_readsLine N v0 c) fun (_ : Unit) c3 => Option.bind (gR c3 v0 2 2) fun x4 => cV 10 x4 c3 (fX10_isSign N x4 (59 : Int32) c3) fun r5 c6 => if ¬ r5 = 0 then (bX2_readsLines_40 N  k2 v0 v1 c6) else (cV 2 v0 c6 (fX2_refuses N v0 (1 : Int32) c6) fun (_ : Unit) c7 => bX2_readsLines_40 N  k2 v0 v1 c7)))
set_option maxRecDepth 100000 in
theorem wX2_readsLines_2 {Z : mm_Z} {X : mm_T} {k w mc ms d n N : Nat} {Q : mm_O → mm_H → Prop} (C : mm_Ok Z qX2_readsLines X) (hRm : mt_R X = mm_rm d mc ms) (hd : 102 ≤ d) (hn : n + 1 < 1000000) (hk : k + 1 ≤ mc) (hw : w + 6 ≤ ms) {k2 : Nat → Int32 → mm_C → mR Unit} (hk2 : ∀ (v0 : Nat) (v1 : Int32) (c : mm_C), hO 0 ovU n (k2 v0 v1 c) Q → mG Z qX2_readsLines X k w mc ms Q (2, [(0, .ref v0), (1, .int v1)], [], (n, c))) {v0 : Nat} {v1 : Int32} {c : mm_C} (hf : hO 0 ovU n (bX2_readsLines_2 N  k2 v0 v1 c) Q) : mG Z qX2_readsLines X k w mc ms Q (2, [(0, .ref v0), (1, .int v1)], [], (n, c)) := by
  unfold bX2_readsLines_2 at hf
  refine mg_iload_n C rfl rfl ?_
  refine mg_sipush (v := 700) C rfl (by decide) ?_
  refine mh_icmp_ge C rfl hf (fun e_6 hf => ?_) (fun e_6 hf => ?_)
  · exact mh_return C rfl (by omega) (by omega) rfl hf
  · refine mg_aload_n C rfl rfl ?_
    refine mh_gR C rfl rfl rfl (by decide) hf (fun x1 hf => ?_)
    refine mh_gI C rfl rfl rfl (by decide) hf (fun x2 hf => ?_)
    refine mh_if_eq C rfl hf (fun e_16 hf => ?_) (fun e_16 hf => ?_)
    · exact mh_return C rfl (by omega) (by omega) rfl hf
    · refine mg_aload_n C rfl rfl ?_
      refine mh_cVU (M' := qX2_readsLine) C rfl rfl aX2_readsLine iX2_readsLine sX2_readsLine hRm (by omega) (by decide) (by omega) (by omega) rfl rfl rfl (Nat.le_of_ble_eq_true rfl) rfl hf (fun hs => wX2_readsLine (by omega) (by omega) hs) (fun c3 hf => ?_)
      refine mg_aload_n C rfl rfl ?_
      refine mh_gR C rfl rfl rfl (by decide) hf (fun x4 hf => ?_)
      refine mg_bipush (v := 59) C rfl (by decide) ?_
      refine mh_cVI (M' := qX10_isSign) C rfl rfl aX10_isSign iX10_isSign sX10_isSign hRm (by omega) (by decide) (by omega) (by omega) rfl rfl rfl (Nat.le_of_ble_eq_true rfl) rfl hf (fun hs => wX10_isSign (by omega) (by omega) hs) (fun r5 c6 hf => ?_)
      refine mh_if_ne C rfl hf (fun e_32 hf => ?_) (fun e_32 hf => ?_)
      · exact wX2_readsLines_40 C hRm hd hn hk hw hk2 hf
      · refine mg_aload_n C rfl rfl ?_
        refine mg_iconst (v := 1) C rfl (by decide) ?_
        refine mh_cVU (M' := qX2_refuses) C rfl rfl aX2_refuses iX2_refuses sX2_refuses hRm (by omega) (by decide) (by omega) (by omega) rfl rfl rfl (Nat.le_of_ble_eq_true rfl) rfl hf (fun hs => wX2_refuses (by omega) (by omega) hs) (fun c7 hf => ?_)
        exact wX2_readsLines_40 C hRm hd hn hk hw hk2 hf
def lX2_readsLines_2 (N : Nat)  : Nat → Nat → Int32 → mm_C → mR Unit
  | 0, _, _, _ => none
  | m + 1, v0, v1, c => bX2_readsLines_2 N  (lX2_readsLines_2 N  m) v0 v1 c
theorem WX2_readsLines_2 {Z : mm_Z} {X : mm_T} {k w mc ms d n N : Nat} {Q : mm_O → mm_H → Prop} (C : mm_Ok Z qX2_readsLines X) (hRm : mt_R X = mm_rm d mc ms) (hd : 102 ≤ d) (hn : n + 1 < 1000000) (hk : k + 1 ≤ mc) (hw : w + 6 ≤ ms) : ∀ (m : Nat) {v0 : Nat} {v1 : Int32} {c : mm_C} (hf : hO 0 ovU n (lX2_readsLines_2 N  m v0 v1 c) Q), mG Z qX2_readsLines X k w mc ms Q (2, [(0, .ref v0), (1, .int v1)], [], (n, c)) := by
  intro m
  induction m with
  | zero => intro v0 v1 c hf; exact absurd hf hO_none
  | succ m ih => intro v0 v1 c hf; exact wX2_readsLines_2 C hRm hd hn hk hw (fun v0 v1 c hf => ih hf) hf
def bX2_readsLines_0 (N : Nat)  (v0 : Nat) (c : mm_C) : mR Unit :=
  lX2_readsLines_2 N  N v0 (0 : Int32) c
set_option maxRecDepth 100000 in
theorem wX2_readsLines_0 {Z : mm_Z} {X : mm_T} {k w mc ms d n N : Nat} {Q : mm_O → mm_H → Prop} (C : mm_Ok Z qX2_readsLines X) (hRm : mt_R X = mm_rm d mc ms) (hd : 102 ≤ d) (hn : n + 1 < 1000000) (hk : k + 1 ≤ mc) (hw : w + 6 ≤ ms) {v0 : Nat} {c : mm_C} (hf : hO 0 ovU n (bX2_readsLines_0 N  v0 c) Q) : mG Z qX2_readsLines X k w mc ms Q (0, [(0, .ref v0)], [], (n, c)) := by
  unfold bX2_readsLines_0 at hf
  refine mg_iconst (v := 0) C rfl (by decide) ?_
  refine mg_istore_n (lv' := [(0, .ref v0), (1, .int (0 : Int32))]) C rfl (Nat.le_of_ble_eq_true rfl) rfl ?_
  exact WX2_readsLines_2 C hRm hd hn hk hw N hf
def fX2_readsLines (N : Nat) (v0 : Nat) (c : mm_C) : mR Unit := bX2_readsLines_0 N v0 c
set_option maxRecDepth 100000 in
theorem wX2_readsLines {Z : mm_Z} {d n N : Nat} (hd : 102 ≤ d) (hn : n + 1 < 1000000) {v0 : Nat} {c : mm_C} (hs : (fX2_readsLines N v0 c).isSome = true) : mC Z qX2_readsLines d 1 6 [.ref v0] (n, c) (mP 0 ovU n (fX2_readsLines N v0 c)) := by
  refine mC_of gX2_readsLines (by decide +kernel) (Nat.le_of_ble_eq_true rfl) fun X C hRm => ?_
  have hf := hO_mP 0 ovU n hs
  have hk : 0 + 1 ≤ 1 := Nat.le_of_ble_eq_true rfl
  have hw : 0 + 6 ≤ 6 := Nat.le_of_ble_eq_true rfl
  show mG _ _ _ _ _ _ _ _ (0, [(0, .ref v0)], [], (n, c))
  exact wX2_readsLines_0 C hRm hd hn hk hw hf
