/- needs: 15.acall 15.fun 16.c9 16.d3 -/
def bX5_begins_0 (N : Nat)  (v0 : Nat) (v1 : Nat) (c : mm_C) : mR Unit :=
  Option.bind (gR c v0 5 0) fun x1 => Option.bind (gR c v1 3 7) fun x2 => cV 9 x1 c (fX9_begins N x1 x2 c) fun (_ : Unit) c3 => Option.bind (pI c3 v0 5 2 (0 : Int32)) fun c4 => Option.bind (pI c4 v0 5 6 (0 : Int32)) fun c5 => some (.inl (), c5)
set_option maxRecDepth 100000 in
theorem wX5_begins_0 {Z : mm_Z} {X : mm_T} {k w mc ms d n N : Nat} {Q : mm_O → mm_H → Prop} (C : mm_Ok Z qX5_begins X) (hRm : mt_R X = mm_rm d mc ms) (hd : 3 ≤ d) (hn : n + 1 < 1000000) (hk : k + 1 ≤ mc) (hw : w + 6 ≤ ms) {v0 : Nat} {v1 : Nat} {c : mm_C} (hf : hO 0 ovU n (bX5_begins_0 N  v0 v1 c) Q) : mG Z qX5_begins X k w mc ms Q (0, [(0, .ref v0), (1, .ref v1)], [], (n, c)) := by
  unfold bX5_begins_0 at hf
  refine mg_aload_n C rfl rfl ?_
  refine mh_gR C rfl rfl rfl (by decide) hf (fun x1 hf => ?_)
  refine mg_aload_n C rfl rfl ?_
  refine mh_gR C rfl rfl rfl (by decide) hf (fun x2 hf => ?_)
  refine mh_cVU (M' := qX9_begins) C rfl rfl aX9_begins iX9_begins sX9_begins hRm (by omega) (by decide) (by omega) (by omega) rfl rfl rfl (Nat.le_of_ble_eq_true rfl) rfl hf (fun hs => wX9_begins (by omega) (by omega) hs) (fun c3 hf => ?_)
  refine mg_aload_n C rfl rfl ?_
  refine mg_iconst (v := 0) C rfl (by decide) ?_
  refine mh_pI C rfl rfl rfl (by decide) rfl rfl rfl hf (fun c4 hf => ?_)
  refine mg_aload_n C rfl rfl ?_
  refine mg_iconst (v := 0) C rfl (by decide) ?_
  refine mh_pI C rfl rfl rfl (by decide) rfl rfl rfl hf (fun c5 hf => ?_)
  exact mh_return C rfl (by omega) (by omega) rfl hf
def fX5_begins (N : Nat) (v0 : Nat) (v1 : Nat) (c : mm_C) : mR Unit := bX5_begins_0 N v0 v1 c
set_option maxRecDepth 100000 in
theorem wX5_begins {Z : mm_Z} {d n N : Nat} (hd : 3 ≤ d) (hn : n + 1 < 1000000) {v0 : Nat} {v1 : Nat} {c : mm_C} (hs : (fX5_begins N v0 v1 c).isSome = true) : mC Z qX5_begins d 1 6 [.ref v0, .ref v1] (n, c) (mP 0 ovU n (fX5_begins N v0 v1 c)) := by
  refine mC_of gX5_begins (by decide +kernel) (Nat.le_of_ble_eq_true rfl) fun X C hRm => ?_
  have hf := hO_mP 0 ovU n hs
  have hk : 0 + 1 ≤ 1 := Nat.le_of_ble_eq_true rfl
  have hw : 0 + 6 ≤ 6 := Nat.le_of_ble_eq_true rfl
  show mG _ _ _ _ _ _ _ _ (0, [(0, .ref v0), (1, .ref v1)], [], (n, c))
  exact wX5_begins_0 C hRm hd hn hk hw hf
def bX5_copyFrom_110 (N : Nat)  (v0 : Nat) (v1 : Nat) (c : mm_C) : mR Unit :=
  Option.bind (gR c v1 5 7) fun x1 => Option.bind (gR c v0 5 7) fun x2 => Option.bind (gR c v0 5 7) fun x3 => Option.bind (aN c x3) fun x4 => Option.bind (cpA .int c x1 (0 : Int32) x2 (0 : Int32) x4) fun c5 => some (.inl (), c5)
set_option maxRecDepth 100000 in
theorem wX5_copyFrom_110 {Z : mm_Z} {X : mm_T} {k w mc ms d n N : Nat} {Q : mm_O → mm_H → Prop} (C : mm_Ok Z qX5_copyFrom X) (hRm : mt_R X = mm_rm d mc ms) (hd : 3 ≤ d) (hn : n + 1 < 1000000) (hk : k + 1 ≤ mc) (hw : w + 6 ≤ ms) {v0 : Nat} {v1 : Nat} {c : mm_C} (hf : hO 0 ovU n (bX5_copyFrom_110 N  v0 v1 c) Q) : mG Z qX5_copyFrom X k w mc ms Q (110, [(0, .ref v0), (1, .ref v1)], [], (n, c)) := by
  unfold bX5_copyFrom_110 at hf
  refine mg_aload_n C rfl rfl ?_
  refine mh_gR C rfl rfl rfl (by decide) hf (fun x1 hf => ?_)
  refine mg_iconst (v := 0) C rfl (by decide) ?_
  refine mg_aload_n C rfl rfl ?_
  refine mh_gR C rfl rfl rfl (by decide) hf (fun x2 hf => ?_)
  refine mg_iconst (v := 0) C rfl (by decide) ?_
  refine mg_aload_n C rfl rfl ?_
  refine mh_gR C rfl rfl rfl (by decide) hf (fun x3 hf => ?_)
  refine mh_aN C rfl hf (fun x4 hf => ?_)
  refine mh_cpA (ti := 0) C rfl rfl rfl rfl hRm (by omega) (Nat.le_of_ble_eq_true rfl) hf (fun c5 hf => ?_)
  exact mh_return C rfl (by omega) (by omega) rfl hf
def bX5_copyFrom_60 (N : Nat)  (k60 : Nat → Nat → Int32 → mm_C → mR Unit) (v0 : Nat) (v1 : Nat) (v2 : Int32) (c : mm_C) : mR Unit :=
  Option.bind (gI c v0 5 6) fun x1 => if x1 ≤ v2 then (bX5_copyFrom_110 N  v0 v1 c) else (Option.bind (gR c v0 5 3) fun x2 => Option.bind (gR c v1 5 3) fun x3 => Option.bind (aI c x3 v2) fun x4 => Option.bind (tI c x2 v2 x4) fun c5 => Option.bind (gR c5 v0 5 4) fun x6 => Option.bind (gR c5 v1 5 4) fun x7 => Option.bind (aI c5 x7 v2) fun x8 => Option.bind (tI c5 x6 v2 x8) fun c9 => Option.bind (gR c9 v0 5 5) fun x10 => Option.bind (gR c9 v1 5 5) fun x11 => Option.bind (aZ c9 x11 v2) fun x12 => Option.bind (tZ c9 x10 v2 x12) fun c13 => k60 v0 v1 (v2 + 1) c13)
set_option maxRecDepth 100000 in
theorem wX5_copyFrom_60 {Z : mm_Z} {X : mm_T} {k w mc ms d n N : Nat} {Q : mm_O → mm_H → Prop} (C : mm_Ok Z qX5_copyFrom X) (hRm : mt_R X = mm_rm d mc ms) (hd : 3 ≤ d) (hn : n + 1 < 1000000) (hk : k + 1 ≤ mc) (hw : w + 6 ≤ ms) {k60 : Nat → Nat → Int32 → mm_C → mR Unit} (hk60 : ∀ (v0 : Nat) (v1 : Nat) (v2 : Int32) (c : mm_C), hO 0 ovU n (k60 v0 v1 v2 c) Q → mG Z qX5_copyFrom X k w mc ms Q (60, [(0, .ref v0), (1, .ref v1), (2, .int v2)], [], (n, c))) {v0 : Nat} {v1 : Nat} {v2 : Int32} {c : mm_C} (hf : hO 0 ovU n (bX5_copyFrom_60 N  k60 v0 v1 v2 c) Q) : mG Z qX5_copyFrom X k w mc ms Q (60, [(0, .ref v0), (1, .ref v1), (2, .int v2)], [], (n, c)) := by
  unfold bX5_copyFrom_60 at hf
  refine mg_iload_n C rfl rfl ?_
  refine mg_aload_n C rfl rfl ?_
  refine mh_gI C rfl rfl rfl (by decide) hf (fun x1 hf => ?_)
  refine mh_icmp_ge C rfl hf (fun e_65 hf => ?_) (fun e_65 hf => ?_)
  · refine mg_sub (lv' := [(0, .ref v0), (1, .ref v1)]) (by simp) ?_
    exact wX5_copyFrom_110 C hRm hd hn hk hw hf
  · refine mg_aload_n C rfl rfl ?_
    refine mh_gR C rfl rfl rfl (by decide) hf (fun x2 hf => ?_)
    refine mg_iload_n C rfl rfl ?_
    refine mg_aload_n C rfl rfl ?_
    refine mh_gR C rfl rfl rfl (by decide) hf (fun x3 hf => ?_)
    refine mg_iload_n C rfl rfl ?_
    refine mh_aI C rfl hf (fun x4 hf => ?_)
    refine mh_tI C rfl hf (fun c5 hf => ?_)
    refine mg_aload_n C rfl rfl ?_
    refine mh_gR C rfl rfl rfl (by decide) hf (fun x6 hf => ?_)
    refine mg_iload_n C rfl rfl ?_
    refine mg_aload_n C rfl rfl ?_
    refine mh_gR C rfl rfl rfl (by decide) hf (fun x7 hf => ?_)
    refine mg_iload_n C rfl rfl ?_
    refine mh_aI C rfl hf (fun x8 hf => ?_)
    refine mh_tI C rfl hf (fun c9 hf => ?_)
    refine mg_aload_n C rfl rfl ?_
    refine mh_gR C rfl rfl rfl (by decide) hf (fun x10 hf => ?_)
    refine mg_iload_n C rfl rfl ?_
    refine mg_aload_n C rfl rfl ?_
    refine mh_gR C rfl rfl rfl (by decide) hf (fun x11 hf => ?_)
    refine mg_iload_n C rfl rfl ?_
    refine mh_aZ C rfl hf (fun x12 hf => ?_)
    refine mh_tZ C rfl hf (fun c13 hf => ?_)
    refine mg_iinc (lv' := [(0, .ref v0), (1, .ref v1), (2, .int (v2 + 1))]) C rfl (Nat.le_of_ble_eq_true rfl) rfl (show _ + Int32.ofInt 1 = _ + 1 by congr 1) rfl ?_
    refine mg_goto C rfl ?_
    exact hk60 _ _ _ _ hf
def lX5_copyFrom_60 (N : Nat)  : Nat → Nat → Nat → Int32 → mm_C → mR Unit
  | 0, _, _, _, _ => none
  | m + 1, v0, v1, v2, c => bX5_copyFrom_60 N  (lX5_copyFrom_60 N  m) v0 v1 v2 c
theorem WX5_copyFrom_60 {Z : mm_Z} {X : mm_T} {k w mc ms d n N : Nat} {Q : mm_O → mm_H → Prop} (C : mm_Ok Z qX5_copyFrom X) (hRm : mt_R X = mm_rm d mc ms) (hd : 3 ≤ d) (hn : n + 1 < 1000000) (hk : k + 1 ≤ mc) (hw : w + 6 ≤ ms) : ∀ (m : Nat) {v0 : Nat} {v1 : Nat} {v2 : Int32} {c : mm_C} (hf : hO 0 ovU n (lX5_copyFrom_60 N  m v0 v1 v2 c) Q), mG Z qX5_copyFrom X k w mc ms Q (60, [(0, .ref v0), (1, .ref v1), (2, .int v2)], [], (n, c)) := by
  intro m
  induction m with
  | zero => intro v0 v1 v2 c hf; exact absurd hf hO_none
  | succ m ih => intro v0 v1 v2 c hf; exact wX5_copyFrom_60 C hRm hd hn hk hw (fun v0 v1 v2 c hf => ih hf) hf
def bX5_copyFrom_50 (N : Nat)  (v0 : Nat) (v1 : Nat) (c : mm_C) : mR Unit :=
  Option.bind (gI c v1 5 6) fun x1 => Option.bind (pI c v0 5 6 x1) fun c2 => lX5_copyFrom_60 N  N v0 v1 (0 : Int32) c2
set_option maxRecDepth 100000 in
theorem wX5_copyFrom_50 {Z : mm_Z} {X : mm_T} {k w mc ms d n N : Nat} {Q : mm_O → mm_H → Prop} (C : mm_Ok Z qX5_copyFrom X) (hRm : mt_R X = mm_rm d mc ms) (hd : 3 ≤ d) (hn : n + 1 < 1000000) (hk : k + 1 ≤ mc) (hw : w + 6 ≤ ms) {v0 : Nat} {v1 : Nat} {c : mm_C} (hf : hO 0 ovU n (bX5_copyFrom_50 N  v0 v1 c) Q) : mG Z qX5_copyFrom X k w mc ms Q (50, [(0, .ref v0), (1, .ref v1)], [], (n, c)) := by
  unfold bX5_copyFrom_50 at hf
  refine mg_aload_n C rfl rfl ?_
  refine mg_aload_n C rfl rfl ?_
  refine mh_gI C rfl rfl rfl (by decide) hf (fun x1 hf => ?_)
  refine mh_pI C rfl rfl rfl (by decide) rfl rfl rfl hf (fun c2 hf => ?_)
  refine mg_iconst (v := 0) C rfl (by decide) ?_
  refine mg_istore_n (lv' := [(0, .ref v0), (1, .ref v1), (2, .int (0 : Int32))]) C rfl (Nat.le_of_ble_eq_true rfl) rfl ?_
  exact WX5_copyFrom_60 C hRm hd hn hk hw N hf
def bX5_copyFrom_21 (N : Nat)  (k21 : Nat → Nat → Int32 → mm_C → mR Unit) (v0 : Nat) (v1 : Nat) (v2 : Int32) (c : mm_C) : mR Unit :=
  Option.bind (gI c v0 5 2) fun x1 => if x1 ≤ v2 then (bX5_copyFrom_50 N  v0 v1 c) else (Option.bind (gR c v0 5 1) fun x2 => Option.bind (aR (.object "CloudTakes$State") c x2 v2) fun x3 => Option.bind (gR c v1 5 1) fun x4 => Option.bind (aR (.object "CloudTakes$State") c x4 v2) fun x5 => cV 9 x3 c (fX9_copyFrom N x3 x5 c) fun (_ : Unit) c6 => k21 v0 v1 (v2 + 1) c6)
set_option maxRecDepth 100000 in
theorem wX5_copyFrom_21 {Z : mm_Z} {X : mm_T} {k w mc ms d n N : Nat} {Q : mm_O → mm_H → Prop} (C : mm_Ok Z qX5_copyFrom X) (hRm : mt_R X = mm_rm d mc ms) (hd : 3 ≤ d) (hn : n + 1 < 1000000) (hk : k + 1 ≤ mc) (hw : w + 6 ≤ ms) {k21 : Nat → Nat → Int32 → mm_C → mR Unit} (hk21 : ∀ (v0 : Nat) (v1 : Nat) (v2 : Int32) (c : mm_C), hO 0 ovU n (k21 v0 v1 v2 c) Q → mG Z qX5_copyFrom X k w mc ms Q (21, [(0, .ref v0), (1, .ref v1), (2, .int v2)], [], (n, c))) {v0 : Nat} {v1 : Nat} {v2 : Int32} {c : mm_C} (hf : hO 0 ovU n (bX5_copyFrom_21 N  k21 v0 v1 v2 c) Q) : mG Z qX5_copyFrom X k w mc ms Q (21, [(0, .ref v0), (1, .ref v1), (2, .int v2)], [], (n, c)) := by
  unfold bX5_copyFrom_21 at hf
  refine mg_iload_n C rfl rfl ?_
  refine mg_aload_n C rfl rfl ?_
  refine mh_gI C rfl rfl rfl (by decide) hf (fun x1 hf => ?_)
  refine mh_icmp_ge C rfl hf (fun e_26 hf => ?_) (fun e_26 hf => ?_)
  · refine mg_sub (lv' := [(0, .ref v0), (1, .ref v1)]) (by simp) ?_
    exact wX5_copyFrom_50 C hRm hd hn hk hw hf
  · refine mg_aload_n C rfl rfl ?_
    refine mh_gR C rfl rfl rfl (by decide) hf (fun x2 hf => ?_)
    refine mg_iload_n C rfl rfl ?_
    refine mh_aR (ti := 5) C rfl rfl rfl hf (fun x3 hf => ?_)
    refine mg_aload_n C rfl rfl ?_
    refine mh_gR C rfl rfl rfl (by decide) hf (fun x4 hf => ?_)
    refine mg_iload_n C rfl rfl ?_
    refine mh_aR (ti := 5) C rfl rfl rfl hf (fun x5 hf => ?_)
    refine mh_cVU (M' := qX9_copyFrom) C rfl rfl aX9_copyFrom iX9_copyFrom sX9_copyFrom hRm (by omega) (by decide) (by omega) (by omega) rfl rfl rfl (Nat.le_of_ble_eq_true rfl) rfl hf (fun hs => wX9_copyFrom (by omega) (by omega) hs) (fun c6 hf => ?_)
    refine mg_iinc (lv' := [(0, .ref v0), (1, .ref v1), (2, .int (v2 + 1))]) C rfl (Nat.le_of_ble_eq_true rfl) rfl (show _ + Int32.ofInt 1 = _ + 1 by congr 1) rfl ?_
    refine mg_goto C rfl ?_
    exact hk21 _ _ _ _ hf
def lX5_copyFrom_21 (N : Nat)  : Nat → Nat → Nat → Int32 → mm_C → mR Unit
  | 0, _, _, _, _ => none
  | m + 1, v0, v1, v2, c => bX5_copyFrom_21 N  (lX5_copyFrom_21 N  m) v0 v1 v2 c
theorem WX5_copyFrom_21 {Z : mm_Z} {X : mm_T} {k w mc ms d n N : Nat} {Q : mm_O → mm_H → Prop} (C : mm_Ok Z qX5_copyFrom X) (hRm : mt_R X = mm_rm d mc ms) (hd : 3 ≤ d) (hn : n + 1 < 1000000) (hk : k + 1 ≤ mc) (hw : w + 6 ≤ ms) : ∀ (m : Nat) {v0 : Nat} {v1 : Nat} {v2 : Int32} {c : mm_C} (hf : hO 0 ovU n (lX5_copyFrom_21 N  m v0 v1 v2 c) Q), mG Z qX5_copyFrom X k w mc ms Q (21, [(0, .ref v0), (1, .ref v1), (2, .int v2)], [], (n, c)) := by
  intro m
  induction m with
  | zero => intro v0 v1 v2 c hf; exact absurd hf hO_none
  | succ m ih => intro v0 v1 v2 c hf; exact wX5_copyFrom_21 C hRm hd hn hk hw (fun v0 v1 v2 c hf => ih hf) hf
def bX5_copyFrom_0 (N : Nat)  (v0 : Nat) (v1 : Nat) (c : mm_C) : mR Unit :=
  Option.bind (gR c v0 5 0) fun x1 => Option.bind (gR c v1 5 0) fun x2 => cV 9 x1 c (fX9_copyFrom N x1 x2 c) fun (_ : Unit) c3 => Option.bind (gI c3 v1 5 2) fun x4 => Option.bind (pI c3 v0 5 2 x4) fun c5 => lX5_copyFrom_21 N  N v0 v1 (0 : Int32) c5
set_option maxRecDepth 100000 in
theorem wX5_copyFrom_0 {Z : mm_Z} {X : mm_T} {k w mc ms d n N : Nat} {Q : mm_O → mm_H → Prop} (C : mm_Ok Z qX5_copyFrom X) (hRm : mt_R X = mm_rm d mc ms) (hd : 3 ≤ d) (hn : n + 1 < 1000000) (hk : k + 1 ≤ mc) (hw : w + 6 ≤ ms) {v0 : Nat} {v1 : Nat} {c : mm_C} (hf : hO 0 ovU n (bX5_copyFrom_0 N  v0 v1 c) Q) : mG Z qX5_copyFrom X k w mc ms Q (0, [(0, .ref v0), (1, .ref v1)], [], (n, c)) := by
  unfold bX5_copyFrom_0 at hf
  refine mg_aload_n C rfl rfl ?_
  refine mh_gR C rfl rfl rfl (by decide) hf (fun x1 hf => ?_)
  refine mg_aload_n C rfl rfl ?_
  refine mh_gR C rfl rfl rfl (by decide) hf (fun x2 hf => ?_)
  refine mh_cVU (M' := qX9_copyFrom) C rfl rfl aX9_copyFrom iX9_copyFrom sX9_copyFrom hRm (by omega) (by decide) (by omega) (by omega) rfl rfl rfl (Nat.le_of_ble_eq_true rfl) rfl hf (fun hs => wX9_copyFrom (by omega) (by omega) hs) (fun c3 hf => ?_)
  refine mg_aload_n C rfl rfl ?_
  refine mg_aload_n C rfl rfl ?_
  refine mh_gI C rfl rfl rfl (by decide) hf (fun x4 hf => ?_)
  refine mh_pI C rfl rfl rfl (by decide) rfl rfl rfl hf (fun c5 hf => ?_)
  refine mg_iconst (v := 0) C rfl (by decide) ?_
  refine mg_istore_n (lv' := [(0, .ref v0), (1, .ref v1), (2, .int (0 : Int32))]) C rfl (Nat.le_of_ble_eq_true rfl) rfl ?_
  exact WX5_copyFrom_21 C hRm hd hn hk hw N hf
def fX5_copyFrom (N : Nat) (v0 : Nat) (v1 : Nat) (c : mm_C) : mR Unit := bX5_copyFrom_0 N v0 v1 c
set_option maxRecDepth 100000 in
theorem wX5_copyFrom {Z : mm_Z} {d n N : Nat} (hd : 3 ≤ d) (hn : n + 1 < 1000000) {v0 : Nat} {v1 : Nat} {c : mm_C} (hs : (fX5_copyFrom N v0 v1 c).isSome = true) : mC Z qX5_copyFrom d 1 6 [.ref v0, .ref v1] (n, c) (mP 0 ovU n (fX5_copyFrom N v0 v1 c)) := by
  refine mC_of gX5_copyFrom (by decide +kernel) (Nat.le_of_ble_eq_true rfl) fun X C hRm => ?_
  have hf := hO_mP 0 ovU n hs
  have hk : 0 + 1 ≤ 1 := Nat.le_of_ble_eq_true rfl
  have hw : 0 + 6 ≤ 6 := Nat.le_of_ble_eq_true rfl
  show mG _ _ _ _ _ _ _ _ (0, [(0, .ref v0), (1, .ref v1)], [], (n, c))
  exact wX5_copyFrom_0 C hRm hd hn hk hw hf
def bX5_dropOldestAct_35 (N : Nat)  (v0 : Nat) (v1 : Nat) (c : mm_C) : mR Unit :=
  Option.bind (gR c v0 5 1) fun x1 => Option.bind (tR "CloudTakes$State" 9 c x1 (39 : Int32) v1) fun c2 => Option.bind (pI c2 v0 5 2 (39 : Int32)) fun c3 => some (.inl (), c3)
set_option maxRecDepth 100000 in
theorem wX5_dropOldestAct_35 {Z : mm_Z} {X : mm_T} {k w mc ms d n N : Nat} {Q : mm_O → mm_H → Prop} (C : mm_Ok Z qX5_dropOldestAct X) (hRm : mt_R X = mm_rm d mc ms) (hd : 1 ≤ d) (hn : n + 1 < 1000000) (hk : k + 1 ≤ mc) (hw : w + 6 ≤ ms) {v0 : Nat} {v1 : Nat} {c : mm_C} (hf : hO 0 ovU n (bX5_dropOldestAct_35 N  v0 v1 c) Q) : mG Z qX5_dropOldestAct X k w mc ms Q (35, [(0, .ref v0), (1, .ref v1)], [], (n, c)) := by
  unfold bX5_dropOldestAct_35 at hf
  refine mg_aload_n C rfl rfl ?_
  refine mh_gR C rfl rfl rfl (by decide) hf (fun x1 hf => ?_)
  refine mg_bipush (v := 39) C rfl (by decide) ?_
  refine mg_aload_n C rfl rfl ?_
  refine mh_tR (ti := 5) C rfl rfl rfl hf (fun c2 hf => ?_)
  refine mg_aload_n C rfl rfl ?_
  refine mg_bipush (v := 39) C rfl (by decide) ?_
  refine mh_pI C rfl rfl rfl (by decide) rfl rfl rfl hf (fun c3 hf => ?_)
  exact mh_return C rfl (by omega) (by omega) rfl hf
def bX5_dropOldestAct_9 (N : Nat)  (k9 : Nat → Nat → Int32 → mm_C → mR Unit) (v0 : Nat) (v1 : Nat) (v2 : Int32) (c : mm_C) : mR Unit :=
  if (40 : Int32) ≤ v2 then (bX5_dropOldestAct_35 N  v0 v1 c) else (Option.bind (gR c v0 5 1) fun x1 => Option.bind (gR c v0 5 1) fun x2 => Option.bind (aR (.object "CloudTakes$State") c x2 v2) fun x3 => Option.bind (tR "CloudTakes$State" 9 c x1 (v2 - (1 : Int32)) x3) fun c4 => k9 v0 v1 (v2 + 1) c4)
set_option maxRecDepth 100000 in
theorem wX5_dropOldestAct_9 {Z : mm_Z} {X : mm_T} {k w mc ms d n N : Nat} {Q : mm_O → mm_H → Prop} (C : mm_Ok Z qX5_dropOldestAct X) (hRm : mt_R X = mm_rm d mc ms) (hd : 1 ≤ d) (hn : n + 1 < 1000000) (hk : k + 1 ≤ mc) (hw : w + 6 ≤ ms) {k9 : Nat → Nat → Int32 → mm_C → mR Unit} (hk9 : ∀ (v0 : Nat) (v1 : Nat) (v2 : Int32) (c : mm_C), hO 0 ovU n (k9 v0 v1 v2 c) Q → mG Z qX5_dropOldestAct X k w mc ms Q (9, [(0, .ref v0), (1, .ref v1), (2, .int v2)], [], (n, c))) {v0 : Nat} {v1 : Nat} {v2 : Int32} {c : mm_C} (hf : hO 0 ovU n (bX5_dropOldestAct_9 N  k9 v0 v1 v2 c) Q) : mG Z qX5_dropOldestAct X k w mc ms Q (9, [(0, .ref v0), (1, .ref v1), (2, .int v2)], [], (n, c)) := by
  unfold bX5_dropOldestAct_9 at hf
  refine mg_iload_n C rfl rfl ?_
  refine mg_bipush (v := 40) C rfl (by decide) ?_
  refine mh_icmp_ge C rfl hf (fun e_12 hf => ?_) (fun e_12 hf => ?_)
  · refine mg_sub (lv' := [(0, .ref v0), (1, .ref v1)]) (by simp) ?_
    exact wX5_dropOldestAct_35 C hRm hd hn hk hw hf
  · refine mg_aload_n C rfl rfl ?_
    refine mh_gR C rfl rfl rfl (by decide) hf (fun x1 hf => ?_)
    refine mg_iload_n C rfl rfl ?_
    refine mg_iconst (v := 1) C rfl (by decide) ?_
    refine mg_isub C rfl ?_
    refine mg_aload_n C rfl rfl ?_
    refine mh_gR C rfl rfl rfl (by decide) hf (fun x2 hf => ?_)
    refine mg_iload_n C rfl rfl ?_
    refine mh_aR (ti := 5) C rfl rfl rfl hf (fun x3 hf => ?_)
    refine mh_tR (ti := 5) C rfl rfl rfl hf (fun c4 hf => ?_)
    refine mg_iinc (lv' := [(0, .ref v0), (1, .ref v1), (2, .int (v2 + 1))]) C rfl (Nat.le_of_ble_eq_true rfl) rfl (show _ + Int32.ofInt 1 = _ + 1 by congr 1) rfl ?_
    refine mg_goto C rfl ?_
    exact hk9 _ _ _ _ hf
def lX5_dropOldestAct_9 (N : Nat)  : Nat → Nat → Nat → Int32 → mm_C → mR Unit
  | 0, _, _, _, _ => none
  | m + 1, v0, v1, v2, c => bX5_dropOldestAct_9 N  (lX5_dropOldestAct_9 N  m) v0 v1 v2 c
theorem WX5_dropOldestAct_9 {Z : mm_Z} {X : mm_T} {k w mc ms d n N : Nat} {Q : mm_O → mm_H → Prop} (C : mm_Ok Z qX5_dropOldestAct X) (hRm : mt_R X = mm_rm d mc ms) (hd : 1 ≤ d) (hn : n + 1 < 1000000) (hk : k + 1 ≤ mc) (hw : w + 6 ≤ ms) : ∀ (m : Nat) {v0 : Nat} {v1 : Nat} {v2 : Int32} {c : mm_C} (hf : hO 0 ovU n (lX5_dropOldestAct_9 N  m v0 v1 v2 c) Q), mG Z qX5_dropOldestAct X k w mc ms Q (9, [(0, .ref v0), (1, .ref v1), (2, .int v2)], [], (n, c)) := by
  intro m
  induction m with
  | zero => intro v0 v1 v2 c hf; exact absurd hf hO_none
  | succ m ih => intro v0 v1 v2 c hf; exact wX5_dropOldestAct_9 C hRm hd hn hk hw (fun v0 v1 v2 c hf => ih hf) hf
def bX5_dropOldestAct_0 (N : Nat)  (v0 : Nat) (c : mm_C) : mR Unit :=
  Option.bind (gR c v0 5 1) fun x1 => Option.bind (aR (.object "CloudTakes$State") c x1 (0 : Int32)) fun x2 => lX5_dropOldestAct_9 N  N v0 x2 (1 : Int32) c
set_option maxRecDepth 100000 in
theorem wX5_dropOldestAct_0 {Z : mm_Z} {X : mm_T} {k w mc ms d n N : Nat} {Q : mm_O → mm_H → Prop} (C : mm_Ok Z qX5_dropOldestAct X) (hRm : mt_R X = mm_rm d mc ms) (hd : 1 ≤ d) (hn : n + 1 < 1000000) (hk : k + 1 ≤ mc) (hw : w + 6 ≤ ms) {v0 : Nat} {c : mm_C} (hf : hO 0 ovU n (bX5_dropOldestAct_0 N  v0 c) Q) : mG Z qX5_dropOldestAct X k w mc ms Q (0, [(0, .ref v0)], [], (n, c)) := by
  unfold bX5_dropOldestAct_0 at hf
  refine mg_aload_n C rfl rfl ?_
  refine mh_gR C rfl rfl rfl (by decide) hf (fun x1 hf => ?_)
  refine mg_iconst (v := 0) C rfl (by decide) ?_
  refine mh_aR (ti := 5) C rfl rfl rfl hf (fun x2 hf => ?_)
  refine mg_astore_n (lv' := [(0, .ref v0), (1, .ref x2)]) C rfl (Nat.le_of_ble_eq_true rfl) rfl ?_
  refine mg_iconst (v := 1) C rfl (by decide) ?_
  refine mg_istore_n (lv' := [(0, .ref v0), (1, .ref x2), (2, .int (1 : Int32))]) C rfl (Nat.le_of_ble_eq_true rfl) rfl ?_
  exact WX5_dropOldestAct_9 C hRm hd hn hk hw N hf
def fX5_dropOldestAct (N : Nat) (v0 : Nat) (c : mm_C) : mR Unit := bX5_dropOldestAct_0 N v0 c
set_option maxRecDepth 100000 in
theorem wX5_dropOldestAct {Z : mm_Z} {d n N : Nat} (hd : 1 ≤ d) (hn : n + 1 < 1000000) {v0 : Nat} {c : mm_C} (hs : (fX5_dropOldestAct N v0 c).isSome = true) : mC Z qX5_dropOldestAct d 1 6 [.ref v0] (n, c) (mP 0 ovU n (fX5_dropOldestAct N v0 c)) := by
  refine mC_of gX5_dropOldestAct (by decide +kernel) (Nat.le_of_ble_eq_true rfl) fun X C hRm => ?_
  have hf := hO_mP 0 ovU n hs
  have hk : 0 + 1 ≤ 1 := Nat.le_of_ble_eq_true rfl
  have hw : 0 + 6 ≤ 6 := Nat.le_of_ble_eq_true rfl
  show mG _ _ _ _ _ _ _ _ (0, [(0, .ref v0)], [], (n, c))
  exact wX5_dropOldestAct_0 C hRm hd hn hk hw hf
def bX5_keepAct_13 (N : Nat)  (v0 : Nat) (c : mm_C) : mR Unit :=
  Option.bind (gR c v0 5 1) fun x1 => Option.bind (gI c v0 5 2) fun x2 => Option.bind (aR (.object "CloudTakes$State") c x1 x2) fun x3 => Option.bind (gR c v0 5 0) fun x4 => cV 9 x3 c (fX9_copyFrom N x3 x4 c) fun (_ : Unit) c5 => Option.bind (gI c5 v0 5 2) fun x6 => Option.bind (pI c5 v0 5 2 (x6 + (1 : Int32))) fun c7 => some (.inl (), c7)
set_option maxRecDepth 100000 in
theorem wX5_keepAct_13 {Z : mm_Z} {X : mm_T} {k w mc ms d n N : Nat} {Q : mm_O → mm_H → Prop} (C : mm_Ok Z qX5_keepAct X) (hRm : mt_R X = mm_rm d mc ms) (hd : 3 ≤ d) (hn : n + 1 < 1000000) (hk : k + 1 ≤ mc) (hw : w + 6 ≤ ms) {v0 : Nat} {c : mm_C} (hf : hO 0 ovU n (bX5_keepAct_13 N  v0 c) Q) : mG Z qX5_keepAct X k w mc ms Q (13, [(0, .ref v0)], [], (n, c)) := by
  unfold bX5_keepAct_13 at hf
  refine mg_aload_n C rfl rfl ?_
  refine mh_gR C rfl rfl rfl (by decide) hf (fun x1 hf => ?_)
  refine mg_aload_n C rfl rfl ?_
  refine mh_gI C rfl rfl rfl (by decide) hf (fun x2 hf => ?_)
  refine mh_aR (ti := 5) C rfl rfl rfl hf (fun x3 hf => ?_)
  refine mg_aload_n C rfl rfl ?_
  refine mh_gR C rfl rfl rfl (by decide) hf (fun x4 hf => ?_)
  refine mh_cVU (M' := qX9_copyFrom) C rfl rfl aX9_copyFrom iX9_copyFrom sX9_copyFrom hRm (by omega) (by decide) (by omega) (by omega) rfl rfl rfl (Nat.le_of_ble_eq_true rfl) rfl hf (fun hs => wX9_copyFrom (by omega) (by omega) hs) (fun c5 hf => ?_)
  refine mg_aload_n C rfl rfl ?_
  refine mg_dup C rfl rfl ?_
  refine mh_gI C rfl rfl rfl (by decide) hf (fun x6 hf => ?_)
  refine mg_iconst (v := 1) C rfl (by decide) ?_
  refine mg_iadd C rfl ?_
  refine mh_pI C rfl rfl rfl (by decide) rfl rfl rfl hf (fun c7 hf => ?_)
  exact mh_return C rfl (by omega) (by omega) rfl hf
def bX5_keepAct_0 (N : Nat)  (v0 : Nat) (c : mm_C) : mR Unit :=
  Option.bind (gI c v0 5 2) fun x1 => if ¬ x1 = (40 : Int32) then (bX5_keepAct_13 N  v0 c) else (cV 5 v0 c (fX5_dropOldestAct N v0 c) fun (_ : Unit) c2 => bX5_keepAct_13 N  v0 c2)
set_option maxRecDepth 100000 in
theorem wX5_keepAct_0 {Z : mm_Z} {X : mm_T} {k w mc ms d n N : Nat} {Q : mm_O → mm_H → Prop} (C : mm_Ok Z qX5_keepAct X) (hRm : mt_R X = mm_rm d mc ms) (hd : 3 ≤ d) (hn : n + 1 < 1000000) (hk : k + 1 ≤ mc) (hw : w + 6 ≤ ms) {v0 : Nat} {c : mm_C} (hf : hO 0 ovU n (bX5_keepAct_0 N  v0 c) Q) : mG Z qX5_keepAct X k w mc ms Q (0, [(0, .ref v0)], [], (n, c)) := by
  unfold bX5_keepAct_0 at hf
  refine mg_aload_n C rfl rfl ?_
  refine mh_gI C rfl rfl rfl (by decide) hf (fun x1 hf => ?_)
  refine mg_bipush (v := 40) C rfl (by decide) ?_
  refine mh_icmp_ne C rfl hf (fun e_6 hf => ?_) (fun e_6 hf => ?_)
  · exact wX5_keepAct_13 C hRm hd hn hk hw hf
  · refine mg_aload_n C rfl rfl ?_
    refine mh_cVU (M' := qX5_dropOldestAct) C rfl rfl aX5_dropOldestAct iX5_dropOldestAct sX5_dropOldestAct hRm (by omega) (by decide) (by omega) (by omega) rfl rfl rfl (Nat.le_of_ble_eq_true rfl) rfl hf (fun hs => wX5_dropOldestAct (by omega) (by omega) hs) (fun c2 hf => ?_)
    exact wX5_keepAct_13 C hRm hd hn hk hw hf
def fX5_keepAct (N : Nat) (v0 : Nat) (c : mm_C) : mR Unit := bX5_keepAct_0 N v0 c
set_option maxRecDepth 100000 in
theorem wX5_keepAct {Z : mm_Z} {d n N : Nat} (hd : 3 ≤ d) (hn : n + 1 < 1000000) {v0 : Nat} {c : mm_C} (hs : (fX5_keepAct N v0 c).isSome = true) : mC Z qX5_keepAct d 1 6 [.ref v0] (n, c) (mP 0 ovU n (fX5_keepAct N v0 c)) := by
  refine mC_of gX5_keepAct (by decide +kernel) (Nat.le_of_ble_eq_true rfl) fun X C hRm => ?_
  have hf := hO_mP 0 ovU n hs
  have hk : 0 + 1 ≤ 1 := Nat.le_of_ble_eq_true rfl
  have hw : 0 + 6 ≤ 6 := Nat.le_of_ble_eq_true rfl
  show mG _ _ _ _ _ _ _ _ (0, [(0, .ref v0)], [], (n, c))
  exact wX5_keepAct_0 C hRm hd hn hk hw hf
def bX5_goesBack_0 (N : Nat)  (v0 : Nat) (c : mm_C) : mR Int32 :=
  Option.bind (gI c v0 5 2) fun x1 => if ¬ x1 = 0 then (Option.bind (gI c v0 5 2) fun x2 => Option.bind (pI c v0 5 2 (x2 - (1 : Int32))) fun c3 => Option.bind (gR c3 v0 5 0) fun x4 => Option.bind (gR c3 v0 5 1) fun x5 => Option.bind (gI c3 v0 5 2) fun x6 => Option.bind (aR (.object "CloudTakes$State") c3 x5 x6) fun x7 => cV 9 x4 c3 (fX9_copyFrom N x4 x7 c3) fun (_ : Unit) c8 => rZ (1 : Int32) c8) else (rZ (0 : Int32) c)
set_option maxRecDepth 100000 in
theorem wX5_goesBack_0 {Z : mm_Z} {X : mm_T} {k w mc ms d n N : Nat} {Q : mm_O → mm_H → Prop} (C : mm_Ok Z qX5_goesBack X) (hRm : mt_R X = mm_rm d mc ms) (hd : 3 ≤ d) (hn : n + 1 < 1000000) (hk : k + 1 ≤ mc) (hw : w + 6 ≤ ms) {v0 : Nat} {c : mm_C} (hf : hO 0 ovI n (bX5_goesBack_0 N  v0 c) Q) : mG Z qX5_goesBack X k w mc ms Q (0, [(0, .ref v0)], [], (n, c)) := by
  unfold bX5_goesBack_0 at hf
  refine mg_aload_n C rfl rfl ?_
  refine mh_gI C rfl rfl rfl (by decide) hf (fun x1 hf => ?_)
  refine mh_if_ne C rfl hf (fun e_4 hf => ?_) (fun e_4 hf => ?_)
  · refine mg_aload_n C rfl rfl ?_
    refine mg_dup C rfl rfl ?_
    refine mh_gI C rfl rfl rfl (by decide) hf (fun x2 hf => ?_)
    refine mg_iconst (v := 1) C rfl (by decide) ?_
    refine mg_isub C rfl ?_
    refine mh_pI C rfl rfl rfl (by decide) rfl rfl rfl hf (fun c3 hf => ?_)
    refine mg_aload_n C rfl rfl ?_
    refine mh_gR C rfl rfl rfl (by decide) hf (fun x4 hf => ?_)
    refine mg_aload_n C rfl rfl ?_
    refine mh_gR C rfl rfl rfl (by decide) hf (fun x5 hf => ?_)
    refine mg_aload_n C rfl rfl ?_
    refine mh_gI C rfl rfl rfl (by decide) hf (fun x6 hf => ?_)
    refine mh_aR (ti := 5) C rfl rfl rfl hf (fun x7 hf => ?_)
    refine mh_cVU (M' := qX9_copyFrom) C rfl rfl aX9_copyFrom iX9_copyFrom sX9_copyFrom hRm (by omega) (by decide) (by omega) (by omega) rfl rfl rfl (Nat.le_of_ble_eq_true rfl) rfl hf (fun hs => wX9_copyFrom (by omega) (by omega) hs) (fun c8 hf => ?_)
    refine mg_iconst (v := 1) C rfl (by decide) ?_
    exact mh_zreturn C rfl (by omega) (by omega) rfl hf
  · refine mg_iconst (v := 0) C rfl (by decide) ?_
    exact mh_zreturn C rfl (by omega) (by omega) rfl hf
def fX5_goesBack (N : Nat) (v0 : Nat) (c : mm_C) : mR Int32 := bX5_goesBack_0 N v0 c
set_option maxRecDepth 100000 in
theorem wX5_goesBack {Z : mm_Z} {d n N : Nat} (hd : 3 ≤ d) (hn : n + 1 < 1000000) {v0 : Nat} {c : mm_C} (hs : (fX5_goesBack N v0 c).isSome = true) : mC Z qX5_goesBack d 1 6 [.ref v0] (n, c) (mP 0 ovI n (fX5_goesBack N v0 c)) := by
  refine mC_of gX5_goesBack (by decide +kernel) (Nat.le_of_ble_eq_true rfl) fun X C hRm => ?_
  have hf := hO_mP 0 ovI n hs
  have hk : 0 + 1 ≤ 1 := Nat.le_of_ble_eq_true rfl
  have hw : 0 + 6 ≤ 6 := Nat.le_of_ble_eq_true rfl
  show mG _ _ _ _ _ _ _ _ (0, [(0, .ref v0)], [], (n, c))
  exact wX5_goesBack_0 C hRm hd hn hk hw hf
def bX5_keepSeen_0 (N : Nat)  (v0 : Nat) (v1 : Int32) (v2 : Int32) (v3 : Int32) (c : mm_C) : mR Unit :=
  Option.bind (gI c v0 5 6) fun x1 => if (8 : Int32) ≤ x1 then (some (.inl (), c)) else (Option.bind (gR c v0 5 3) fun x2 => Option.bind (gI c v0 5 6) fun x3 => Option.bind (tI c x2 x3 v1) fun c4 => Option.bind (gR c4 v0 5 4) fun x5 => Option.bind (gI c4 v0 5 6) fun x6 => Option.bind (tI c4 x5 x6 v2) fun c7 => Option.bind (gR c7 v0 5 5) fun x8 => Option.bind (gI c7 v0 5 6) fun x9 => Option.bind (tZ c7 x8 x9 v3) fun c10 => Option.bind (gI c10 v0 5 6) fun x11 => Option.bind (pI c10 v0 5 6 (x11 + (1 : Int32))) fun c12 => some (.inl (), c12))
set_option maxRecDepth 100000 in
theorem wX5_keepSeen_0 {Z : mm_Z} {X : mm_T} {k w mc ms d n N : Nat} {Q : mm_O → mm_H → Prop} (C : mm_Ok Z qX5_keepSeen X) (hRm : mt_R X = mm_rm d mc ms) (hd : 1 ≤ d) (hn : n + 1 < 1000000) (hk : k + 1 ≤ mc) (hw : w + 6 ≤ ms) {v0 : Nat} {v1 : Int32} {v2 : Int32} {v3 : Int32} {c : mm_C} (hf : hO 0 ovU n (bX5_keepSeen_0 N  v0 v1 v2 v3 c) Q) : mG Z qX5_keepSeen X k w mc ms Q (0, [(0, .ref v0), (1, .int v1), (2, .int v2), (3, .int v3)], [], (n, c)) := by
  unfold bX5_keepSeen_0 at hf
  refine mg_aload_n C rfl rfl ?_
  refine mh_gI C rfl rfl rfl (by decide) hf (fun x1 hf => ?_)
  refine mg_bipush (v := 8) C rfl (by decide) ?_
  refine mh_icmp_ge C rfl hf (fun e_6 hf => ?_) (fun e_6 hf => ?_)
  · exact mh_return C rfl (by omega) (by omega) rfl hf
  · refine mg_aload_n C rfl rfl ?_
    refine mh_gR C rfl rfl rfl (by decide) hf (fun x2 hf => ?_)
    refine mg_aload_n C rfl rfl ?_
    refine mh_gI C rfl rfl rfl (by decide) hf (fun x3 hf => ?_)
    refine mg_iload_n C rfl rfl ?_
    refine mh_tI C rfl hf (fun c4 hf => ?_)
    refine mg_aload_n C rfl rfl ?_
    refine mh_gR C rfl rfl rfl (by decide) hf (fun x5 hf => ?_)
    refine mg_aload_n C rfl rfl ?_
    refine mh_gI C rfl rfl rfl (by decide) hf (fun x6 hf => ?_)
    refine mg_iload_n C rfl rfl ?_
    refine mh_tI C rfl hf (fun c7 hf => ?_)
    refine mg_aload_n C rfl rfl ?_
    refine mh_gR C rfl rfl rfl (by decide) hf (fun x8 hf => ?_)
    refine mg_aload_n C rfl rfl ?_
    refine mh_gI C rfl rfl rfl (by decide) hf (fun x9 hf => ?_)
    refine mg_iload_n C rfl rfl ?_
    refine mh_tZ C rfl hf (fun c10 hf => ?_)
    refine mg_aload_n C rfl rfl ?_
    refine mg_dup C rfl rfl ?_
    refine mh_gI C rfl rfl rfl (by decide) hf (fun x11 hf => ?_)
    refine mg_iconst (v := 1) C rfl (by decide) ?_
    refine mg_iadd C rfl ?_
    refine mh_pI C rfl rfl rfl (by decide) rfl rfl rfl hf (fun c12 hf => ?_)
    exact mh_return C rfl (by omega) (by omega) rfl hf
def fX5_keepSeen (N : Nat) (v0 : Nat) (v1 : Int32) (v2 : Int32) (v3 : Int32) (c : mm_C) : mR Unit := bX5_keepSeen_0 N v0 v1 v2 v3 c
set_option maxRecDepth 100000 in
theorem wX5_keepSeen {Z : mm_Z} {d n N : Nat} (hd : 1 ≤ d) (hn : n + 1 < 1000000) {v0 : Nat} {v1 : Int32} {v2 : Int32} {v3 : Int32} {c : mm_C} (hs : (fX5_keepSeen N v0 v1 v2 v3 c).isSome = true) : mC Z qX5_keepSeen d 1 6 [.ref v0, .int v1, .int v2, .int v3] (n, c) (mP 0 ovU n (fX5_keepSeen N v0 v1 v2 v3 c)) := by
  refine mC_of gX5_keepSeen (by decide +kernel) (Nat.le_of_ble_eq_true rfl) fun X C hRm => ?_
  have hf := hO_mP 0 ovU n hs
  have hk : 0 + 1 ≤ 1 := Nat.le_of_ble_eq_true rfl
  have hw : 0 + 6 ≤ 6 := Nat.le_of_ble_eq_true rfl
  show mG _ _ _ _ _ _ _ _ (0, [(0, .ref v0), (1, .int v1), (2, .int v2), (3, .int v3)], [], (n, c))
  exact wX5_keepSeen_0 C hRm hd hn hk hw hf
