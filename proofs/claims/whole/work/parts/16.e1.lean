/- needs: 15.acall 15.fun 16.c9 16.d3 -/
def bX1_looks_108 (N : Nat)  (k46 : Nat → Nat → Int32 → Int32 → mm_C → mR Unit) (v0 : Nat) (v2 : Nat) (v5 : Int32) (s0 : Nat) (s1 : Int32) (s2 : Int32) (c : mm_C) : mR Unit :=
  Option.bind (tI c s0 s1 s2) fun c1 => Option.bind (gR c1 v0 1 1) fun x2 => Option.bind (aI c1 x2 v5) fun x3 => k46 v0 v2 x3 (v5 + (-1)) c1
set_option maxRecDepth 100000 in
theorem wX1_looks_108 {Z : mm_Z} {X : mm_T} {k w mc ms d n N : Nat} {Q : mm_O → mm_H → Prop} (C : mm_Ok Z qX1_looks X) (hRm : mt_R X = mm_rm d mc ms) (hd : 2 ≤ d) (hn : n + 1 < 1000000) (hk : k + 1 ≤ mc) (hw : w + 6 ≤ ms) {k46 : Nat → Nat → Int32 → Int32 → mm_C → mR Unit} (hk46 : ∀ (v0 : Nat) (v2 : Nat) (v4 : Int32) (v5 : Int32) (c : mm_C), hO 0 ovU n (k46 v0 v2 v4 v5 c) Q → mG Z qX1_looks X k w mc ms Q (46, [(0, .ref v0), (2, .ref v2), (4, .int v4), (5, .int v5)], [], (n, c))) {v0 : Nat} {v2 : Nat} {v5 : Int32} {s0 : Nat} {s1 : Int32} {s2 : Int32} {c : mm_C} (hf : hO 0 ovU n (bX1_looks_108 N  k46 v0 v2 v5 s0 s1 s2 c) Q) : mG Z qX1_looks X k w mc ms Q (108, [(0, .ref v0), (2, .ref v2), (5, .int v5)], [.int s2, .int s1, .ref s0], (n, c)) := by
  unfold bX1_looks_108 at hf
  refine mh_tI C rfl hf (fun c1 hf => ?_)
  refine mg_aload_n C rfl rfl ?_
  refine mh_gR C rfl rfl rfl (by decide) hf (fun x2 hf => ?_)
  refine mg_iload C rfl rfl ?_
  refine mh_aI C rfl hf (fun x3 hf => ?_)
  refine mg_istore (lv' := [(0, .ref v0), (2, .ref v2), (4, .int x3), (5, .int v5)]) C rfl (Nat.le_of_ble_eq_true rfl) rfl ?_
  refine mg_iinc (lv' := [(0, .ref v0), (2, .ref v2), (4, .int x3), (5, .int (v5 + (-1)))]) C rfl (Nat.le_of_ble_eq_true rfl) rfl (show _ + Int32.ofInt (-1) = _ + (-1) by congr 1) rfl ?_
  refine mg_goto C rfl ?_
  exact hk46 _ _ _ _ _ hf
def bX1_looks_74 (N : Nat)  (k46 : Nat → Nat → Int32 → Int32 → mm_C → mR Unit) (v0 : Nat) (v2 : Nat) (v4 : Int32) (v5 : Int32) (s0 : Nat) (s1 : Int32) (s2 : Int32) (c : mm_C) : mR Unit :=
  Option.bind (tI c s0 s1 s2) fun c1 => Option.bind (gR c1 v0 1 0) fun x2 => Option.bind (gR c1 v0 1 1) fun x3 => Option.bind (aI c1 x3 v5) fun x4 => if ¬ x4 = v4 then (bX1_looks_108 N  k46 v0 v2 v5 x2 v5 (1 : Int32) c1) else (Option.bind (gR c1 v0 1 0) fun x5 => Option.bind (aI c1 x5 (v5 + (1 : Int32))) fun x6 => bX1_looks_108 N  k46 v0 v2 v5 x2 v5 (x6 + (1 : Int32)) c1)
set_option maxRecDepth 100000 in
theorem wX1_looks_74 {Z : mm_Z} {X : mm_T} {k w mc ms d n N : Nat} {Q : mm_O → mm_H → Prop} (C : mm_Ok Z qX1_looks X) (hRm : mt_R X = mm_rm d mc ms) (hd : 2 ≤ d) (hn : n + 1 < 1000000) (hk : k + 1 ≤ mc) (hw : w + 6 ≤ ms) {k46 : Nat → Nat → Int32 → Int32 → mm_C → mR Unit} (hk46 : ∀ (v0 : Nat) (v2 : Nat) (v4 : Int32) (v5 : Int32) (c : mm_C), hO 0 ovU n (k46 v0 v2 v4 v5 c) Q → mG Z qX1_looks X k w mc ms Q (46, [(0, .ref v0), (2, .ref v2), (4, .int v4), (5, .int v5)], [], (n, c))) {v0 : Nat} {v2 : Nat} {v4 : Int32} {v5 : Int32} {s0 : Nat} {s1 : Int32} {s2 : Int32} {c : mm_C} (hf : hO 0 ovU n (bX1_looks_74 N  k46 v0 v2 v4 v5 s0 s1 s2 c) Q) : mG Z qX1_looks X k w mc ms Q (74, [(0, .ref v0), (2, .ref v2), (4, .int v4), (5, .int v5)], [.int s2, .int s1, .ref s0], (n, c)) := by
  unfold bX1_looks_74 at hf
  refine mh_tI C rfl hf (fun c1 hf => ?_)
  refine mg_aload_n C rfl rfl ?_
  refine mh_gR C rfl rfl rfl (by decide) hf (fun x2 hf => ?_)
  refine mg_iload C rfl rfl ?_
  refine mg_aload_n C rfl rfl ?_
  refine mh_gR C rfl rfl rfl (by decide) hf (fun x3 hf => ?_)
  refine mg_iload C rfl rfl ?_
  refine mh_aI C rfl hf (fun x4 hf => ?_)
  refine mg_iload C rfl rfl ?_
  refine mh_icmp_ne C rfl hf (fun e_90 hf => ?_) (fun e_90 hf => ?_)
  · refine mg_iconst (v := 1) C rfl (by decide) ?_
    refine mg_sub (lv' := [(0, .ref v0), (2, .ref v2), (5, .int v5)]) (by simp) ?_
    exact wX1_looks_108 C hRm hd hn hk hw hk46 hf
  · refine mg_aload_n C rfl rfl ?_
    refine mh_gR C rfl rfl rfl (by decide) hf (fun x5 hf => ?_)
    refine mg_iload C rfl rfl ?_
    refine mg_iconst (v := 1) C rfl (by decide) ?_
    refine mg_iadd C rfl ?_
    refine mh_aI C rfl hf (fun x6 hf => ?_)
    refine mg_iconst (v := 1) C rfl (by decide) ?_
    refine mg_iadd C rfl ?_
    refine mg_goto C rfl ?_
    refine mg_sub (lv' := [(0, .ref v0), (2, .ref v2), (5, .int v5)]) (by simp) ?_
    exact wX1_looks_108 C hRm hd hn hk hw hk46 hf
def bX1_looks_46 (N : Nat)  (k46 : Nat → Nat → Int32 → Int32 → mm_C → mR Unit) (v0 : Nat) (v2 : Nat) (v4 : Int32) (v5 : Int32) (c : mm_C) : mR Unit :=
  if v5 < 0 then (some (.inl (), c)) else (Option.bind (gR c v0 1 1) fun x1 => Option.bind (gR c v2 9 8) fun x2 => cV 8 x2 c (fX8_isSun N x2 v5 c) fun r3 c4 => if r3 = 0 then (bX1_looks_74 N  k46 v0 v2 v4 v5 x1 v5 (2 : Int32) c4) else (bX1_looks_74 N  k46 v0 v2 v4 v5 x1 v5 (1 : Int32) c4))
set_option maxRecDepth 100000 in
theorem wX1_looks_46 {Z : mm_Z} {X : mm_T} {k w mc ms d n N : Nat} {Q : mm_O → mm_H → Prop} (C : mm_Ok Z qX1_looks X) (hRm : mt_R X = mm_rm d mc ms) (hd : 2 ≤ d) (hn : n + 1 < 1000000) (hk : k + 1 ≤ mc) (hw : w + 6 ≤ ms) {k46 : Nat → Nat → Int32 → Int32 → mm_C → mR Unit} (hk46 : ∀ (v0 : Nat) (v2 : Nat) (v4 : Int32) (v5 : Int32) (c : mm_C), hO 0 ovU n (k46 v0 v2 v4 v5 c) Q → mG Z qX1_looks X k w mc ms Q (46, [(0, .ref v0), (2, .ref v2), (4, .int v4), (5, .int v5)], [], (n, c))) {v0 : Nat} {v2 : Nat} {v4 : Int32} {v5 : Int32} {c : mm_C} (hf : hO 0 ovU n (bX1_looks_46 N  k46 v0 v2 v4 v5 c) Q) : mG Z qX1_looks X k w mc ms Q (46, [(0, .ref v0), (2, .ref v2), (4, .int v4), (5, .int v5)], [], (n, c)) := by
  unfold bX1_looks_46 at hf
  refine mg_iload C rfl rfl ?_
  refine mh_if_lt C rfl hf (fun e_48 hf => ?_) (fun e_48 hf => ?_)
  · exact mh_return C rfl (by omega) (by omega) rfl hf
  · refine mg_aload_n C rfl rfl ?_
    refine mh_gR C rfl rfl rfl (by decide) hf (fun x1 hf => ?_)
    refine mg_iload C rfl rfl ?_
    refine mg_aload_n C rfl rfl ?_
    refine mh_gR C rfl rfl rfl (by decide) hf (fun x2 hf => ?_)
    refine mg_iload C rfl rfl ?_
    refine mh_cVI (M' := qX8_isSun) C rfl rfl aX8_isSun iX8_isSun sX8_isSun hRm (by omega) (by decide) (by omega) (by omega) rfl rfl rfl (Nat.le_of_ble_eq_true rfl) rfl hf (fun hs => wX8_isSun (by omega) (by omega) hs) (fun r3 c4 hf => ?_)
    refine mh_if_eq C rfl hf (fun e_66 hf => ?_) (fun e_66 hf => ?_)
    · refine mg_iconst (v := 2) C rfl (by decide) ?_
      exact wX1_looks_74 C hRm hd hn hk hw hk46 hf
    · refine mg_iconst (v := 1) C rfl (by decide) ?_
      refine mg_goto C rfl ?_
      exact wX1_looks_74 C hRm hd hn hk hw hk46 hf
def lX1_looks_46 (N : Nat)  : Nat → Nat → Nat → Int32 → Int32 → mm_C → mR Unit
  | 0, _, _, _, _, _ => none
  | m + 1, v0, v2, v4, v5, c => bX1_looks_46 N  (lX1_looks_46 N  m) v0 v2 v4 v5 c
theorem WX1_looks_46 {Z : mm_Z} {X : mm_T} {k w mc ms d n N : Nat} {Q : mm_O → mm_H → Prop} (C : mm_Ok Z qX1_looks X) (hRm : mt_R X = mm_rm d mc ms) (hd : 2 ≤ d) (hn : n + 1 < 1000000) (hk : k + 1 ≤ mc) (hw : w + 6 ≤ ms) : ∀ (m : Nat) {v0 : Nat} {v2 : Nat} {v4 : Int32} {v5 : Int32} {c : mm_C} (hf : hO 0 ovU n (lX1_looks_46 N  m v0 v2 v4 v5 c) Q), mG Z qX1_looks X k w mc ms Q (46, [(0, .ref v0), (2, .ref v2), (4, .int v4), (5, .int v5)], [], (n, c)) := by
  intro m
  induction m with
  | zero => intro v0 v2 v4 v5 c hf; exact absurd hf hO_none
  | succ m ih => intro v0 v2 v4 v5 c hf; exact wX1_looks_46 C hRm hd hn hk hw (fun v0 v2 v4 v5 c hf => ih hf) hf
def bX1_looks_0 (N : Nat)  (v0 : Nat) (v1 : Nat) (v2 : Nat) (v3 : Int32) (c : mm_C) : mR Unit :=
  Option.bind (pR c v0 1 2 v1) fun c1 => Option.bind (pR c1 v0 1 3 v2) fun c2 => Option.bind (pI c2 v0 1 4 (mxI (0 : Int32) (mnI v3 (480 : Int32)))) fun c3 => Option.bind (gR c3 v0 1 0) fun x4 => Option.bind (gI c3 v0 1 4) fun x5 => Option.bind (tI c3 x4 x5 (0 : Int32)) fun c6 => Option.bind (gI c6 v0 1 4) fun x7 => lX1_looks_46 N  N v0 v2 (0 : Int32) (x7 - (1 : Int32)) c6
set_option maxRecDepth 100000 in
theorem wX1_looks_0 {Z : mm_Z} {X : mm_T} {k w mc ms d n N : Nat} {Q : mm_O → mm_H → Prop} (C : mm_Ok Z qX1_looks X) (hRm : mt_R X = mm_rm d mc ms) (hd : 2 ≤ d) (hn : n + 1 < 1000000) (hk : k + 1 ≤ mc) (hw : w + 6 ≤ ms) {v0 : Nat} {v1 : Nat} {v2 : Nat} {v3 : Int32} {c : mm_C} (hf : hO 0 ovU n (bX1_looks_0 N  v0 v1 v2 v3 c) Q) : mG Z qX1_looks X k w mc ms Q (0, [(0, .ref v0), (1, .ref v1), (2, .ref v2), (3, .int v3)], [], (n, c)) := by
  unfold bX1_looks_0 at hf
  refine mg_aload_n C rfl rfl ?_
  refine mg_aload_n C rfl rfl ?_
  refine mh_pR C rfl rfl rfl (by decide) rfl rfl rfl hf (fun c1 hf => ?_)
  refine mg_aload_n C rfl rfl ?_
  refine mg_aload_n C rfl rfl ?_
  refine mh_pR C rfl rfl rfl (by decide) rfl rfl rfl hf (fun c2 hf => ?_)
  refine mg_aload_n C rfl rfl ?_
  refine mg_iconst (v := 0) C rfl (by decide) ?_
  refine mg_iload_n C rfl rfl ?_
  refine mg_sipush (v := 480) C rfl (by decide) ?_
  refine mh_mnI C rfl rfl hRm (by omega) (Nat.le_of_ble_eq_true rfl) ?_
  refine mh_mxI C rfl rfl hRm (by omega) (Nat.le_of_ble_eq_true rfl) ?_
  refine mh_pI C rfl rfl rfl (by decide) rfl rfl rfl hf (fun c3 hf => ?_)
  refine mg_aload_n C rfl rfl ?_
  refine mh_gR C rfl rfl rfl (by decide) hf (fun x4 hf => ?_)
  refine mg_aload_n C rfl rfl ?_
  refine mh_gI C rfl rfl rfl (by decide) hf (fun x5 hf => ?_)
  refine mg_iconst (v := 0) C rfl (by decide) ?_
  refine mh_tI C rfl hf (fun c6 hf => ?_)
  refine mg_iconst (v := 0) C rfl (by decide) ?_
  refine mg_istore (lv' := [(0, .ref v0), (1, .ref v1), (2, .ref v2), (3, .int v3), (4, .int (0 : Int32))]) C rfl (Nat.le_of_ble_eq_true rfl) rfl ?_
  refine mg_aload_n C rfl rfl ?_
  refine mh_gI C rfl rfl rfl (by decide) hf (fun x7 hf => ?_)
  refine mg_iconst (v := 1) C rfl (by decide) ?_
  refine mg_isub C rfl ?_
  refine mg_istore (lv' := [(0, .ref v0), (1, .ref v1), (2, .ref v2), (3, .int v3), (4, .int (0 : Int32)), (5, .int (x7 - (1 : Int32)))]) C rfl (Nat.le_of_ble_eq_true rfl) rfl ?_
  refine mg_sub (lv' := [(0, .ref v0), (2, .ref v2), (4, .int (0 : Int32)), (5, .int (x7 - (1 : Int32)))]) (by simp) ?_
  exact WX1_looks_46 C hRm hd hn hk hw N hf
def fX1_looks (N : Nat) (v0 : Nat) (v1 : Nat) (v2 : Nat) (v3 : Int32) (c : mm_C) : mR Unit := bX1_looks_0 N v0 v1 v2 v3 c
set_option maxRecDepth 100000 in
theorem wX1_looks {Z : mm_Z} {d n N : Nat} (hd : 2 ≤ d) (hn : n + 1 < 1000000) {v0 : Nat} {v1 : Nat} {v2 : Nat} {v3 : Int32} {c : mm_C} (hs : (fX1_looks N v0 v1 v2 v3 c).isSome = true) : mC Z qX1_looks d 1 6 [.ref v0, .ref v1, .ref v2, .int v3] (n, c) (mP 0 ovU n (fX1_looks N v0 v1 v2 v3 c)) := by
  refine mC_of gX1_looks (by decide +kernel) (Nat.le_of_ble_eq_true rfl) fun X C hRm => ?_
  have hf := hO_mP 0 ovU n hs
  have hk : 0 + 1 ≤ 1 := Nat.le_of_ble_eq_true rfl
  have hw : 0 + 6 ≤ 6 := Nat.le_of_ble_eq_true rfl
  show mG _ _ _ _ _ _ _ _ (0, [(0, .ref v0), (1, .ref v1), (2, .ref v2), (3, .int v3)], [], (n, c))
  exact wX1_looks_0 C hRm hd hn hk hw hf
def bX1_beginsHole_26 (N : Nat)   (c : mm_C) : mR Int32 :=
  rZ (1 : Int32) c
set_option maxRecDepth 100000 in
theorem wX1_beginsHole_26 {Z : mm_Z} {X : mm_T} {k w mc ms d n N : Nat} {Q : mm_O → mm_H → Prop} (C : mm_Ok Z qX1_beginsHole X) (hRm : mt_R X = mm_rm d mc ms) (hd : 1 ≤ d) (hn : n + 1 < 1000000) (hk : k + 1 ≤ mc) (hw : w + 6 ≤ ms)  {c : mm_C} (hf : hO 0 ovI n (bX1_beginsHole_26 N   c) Q) : mG Z qX1_beginsHole X k w mc ms Q (26, [], [], (n, c)) := by
  unfold bX1_beginsHole_26 at hf
  refine mg_iconst (v := 1) C rfl (by decide) ?_
  refine mg_goto C rfl ?_
  exact mh_zreturn C rfl (by omega) (by omega) rfl hf
def bX1_beginsHole_0 (N : Nat)  (v0 : Nat) (v1 : Int32) (c : mm_C) : mR Int32 :=
  Option.bind (gR c v0 1 1) fun x1 => Option.bind (aI c x1 v1) fun x2 => if ¬ x2 = (1 : Int32) then (rZ (0 : Int32) c) else (if v1 = 0 then (bX1_beginsHole_26 N  c) else (Option.bind (gR c v0 1 1) fun x3 => Option.bind (aI c x3 (v1 - (1 : Int32))) fun x4 => if ¬ x4 = (2 : Int32) then (rZ (0 : Int32) c) else (bX1_beginsHole_26 N  c)))
set_option maxRecDepth 100000 in
theorem wX1_beginsHole_0 {Z : mm_Z} {X : mm_T} {k w mc ms d n N : Nat} {Q : mm_O → mm_H → Prop} (C : mm_Ok Z qX1_beginsHole X) (hRm : mt_R X = mm_rm d mc ms) (hd : 1 ≤ d) (hn : n + 1 < 1000000) (hk : k + 1 ≤ mc) (hw : w + 6 ≤ ms) {v0 : Nat} {v1 : Int32} {c : mm_C} (hf : hO 0 ovI n (bX1_beginsHole_0 N  v0 v1 c) Q) : mG Z qX1_beginsHole X k w mc ms Q (0, [(0, .ref v0), (1, .int v1)], [], (n, c)) := by
  unfold bX1_beginsHole_0 at hf
  refine mg_aload_n C rfl rfl ?_
  refine mh_gR C rfl rfl rfl (by decide) hf (fun x1 hf => ?_)
  refine mg_iload_n C rfl rfl ?_
  refine mh_aI C rfl hf (fun x2 hf => ?_)
  refine mg_iconst (v := 1) C rfl (by decide) ?_
  refine mh_icmp_ne C rfl hf (fun e_7 hf => ?_) (fun e_7 hf => ?_)
  · refine mg_iconst (v := 0) C rfl (by decide) ?_
    exact mh_zreturn C rfl (by omega) (by omega) rfl hf
  · refine mg_iload_n C rfl rfl ?_
    refine mh_if_eq C rfl hf (fun e_11 hf => ?_) (fun e_11 hf => ?_)
    · refine mg_sub (lv' := []) (by simp) ?_
      exact wX1_beginsHole_26 C hRm hd hn hk hw hf
    · refine mg_aload_n C rfl rfl ?_
      refine mh_gR C rfl rfl rfl (by decide) hf (fun x3 hf => ?_)
      refine mg_iload_n C rfl rfl ?_
      refine mg_iconst (v := 1) C rfl (by decide) ?_
      refine mg_isub C rfl ?_
      refine mh_aI C rfl hf (fun x4 hf => ?_)
      refine mg_iconst (v := 2) C rfl (by decide) ?_
      refine mh_icmp_ne C rfl hf (fun e_23 hf => ?_) (fun e_23 hf => ?_)
      · refine mg_iconst (v := 0) C rfl (by decide) ?_
        exact mh_zreturn C rfl (by omega) (by omega) rfl hf
      · refine mg_sub (lv' := []) (by simp) ?_
        exact wX1_beginsHole_26 C hRm hd hn hk hw hf
def fX1_beginsHole (N : Nat) (v0 : Nat) (v1 : Int32) (c : mm_C) : mR Int32 := bX1_beginsHole_0 N v0 v1 c
set_option maxRecDepth 100000 in
theorem wX1_beginsHole {Z : mm_Z} {d n N : Nat} (hd : 1 ≤ d) (hn : n + 1 < 1000000) {v0 : Nat} {v1 : Int32} {c : mm_C} (hs : (fX1_beginsHole N v0 v1 c).isSome = true) : mC Z qX1_beginsHole d 1 6 [.ref v0, .int v1] (n, c) (mP 0 ovI n (fX1_beginsHole N v0 v1 c)) := by
  refine mC_of gX1_beginsHole (by decide +kernel) (Nat.le_of_ble_eq_true rfl) fun X C hRm => ?_
  have hf := hO_mP 0 ovI n hs
  have hk : 0 + 1 ≤ 1 := Nat.le_of_ble_eq_true rfl
  have hw : 0 + 6 ≤ 6 := Nat.le_of_ble_eq_true rfl
  show mG _ _ _ _ _ _ _ _ (0, [(0, .ref v0), (1, .int v1)], [], (n, c))
  exact wX1_beginsHole_0 C hRm hd hn hk hw hf
def bX1_lightOf_40 (N : Nat)  (v0 : Nat) (v2 : Int32) (c : mm_C) : mR Int32 :=
  Option.bind (gR c v0 1 1) fun x1 => Option.bind (aI c x1 v2) fun x2 => some (.inl x2, c)
set_option maxRecDepth 100000 in
theorem wX1_lightOf_40 {Z : mm_Z} {X : mm_T} {k w mc ms d n N : Nat} {Q : mm_O → mm_H → Prop} (C : mm_Ok Z qX1_lightOf X) (hRm : mt_R X = mm_rm d mc ms) (hd : 1 ≤ d) (hn : n + 1 < 1000000) (hk : k + 1 ≤ mc) (hw : w + 6 ≤ ms) {v0 : Nat} {v2 : Int32} {c : mm_C} (hf : hO 0 ovI n (bX1_lightOf_40 N  v0 v2 c) Q) : mG Z qX1_lightOf X k w mc ms Q (40, [(0, .ref v0), (2, .int v2)], [], (n, c)) := by
  unfold bX1_lightOf_40 at hf
  refine mg_aload_n C rfl rfl ?_
  refine mh_gR C rfl rfl rfl (by decide) hf (fun x1 hf => ?_)
  refine mg_iload_n C rfl rfl ?_
  refine mh_aI C rfl hf (fun x2 hf => ?_)
  exact mh_ireturn C rfl (by omega) (by omega) rfl hf
def bX1_lightOf_20 (N : Nat)  (v0 : Nat) (v1 : Nat) (v2 : Int32) (c : mm_C) : mR Int32 :=
  Option.bind (gI c v1 7 0) fun x1 => if ¬ x1 = (1 : Int32) then (bX1_lightOf_40 N  v0 v2 c) else (Option.bind (gR c v0 1 3) fun x2 => Option.bind (gI c x2 9 6) fun x3 => if x3 = 0 then (bX1_lightOf_40 N  v0 v2 c) else (some (.inl (2 : Int32), c)))
set_option maxRecDepth 100000 in
theorem wX1_lightOf_20 {Z : mm_Z} {X : mm_T} {k w mc ms d n N : Nat} {Q : mm_O → mm_H → Prop} (C : mm_Ok Z qX1_lightOf X) (hRm : mt_R X = mm_rm d mc ms) (hd : 1 ≤ d) (hn : n + 1 < 1000000) (hk : k + 1 ≤ mc) (hw : w + 6 ≤ ms) {v0 : Nat} {v1 : Nat} {v2 : Int32} {c : mm_C} (hf : hO 0 ovI n (bX1_lightOf_20 N  v0 v1 v2 c) Q) : mG Z qX1_lightOf X k w mc ms Q (20, [(0, .ref v0), (1, .ref v1), (2, .int v2)], [], (n, c)) := by
  unfold bX1_lightOf_20 at hf
  refine mg_aload_n C rfl rfl ?_
  refine mh_gI C rfl rfl rfl (by decide) hf (fun x1 hf => ?_)
  refine mg_iconst (v := 1) C rfl (by decide) ?_
  refine mh_icmp_ne C rfl hf (fun e_25 hf => ?_) (fun e_25 hf => ?_)
  · refine mg_sub (lv' := [(0, .ref v0), (2, .int v2)]) (by simp) ?_
    exact wX1_lightOf_40 C hRm hd hn hk hw hf
  · refine mg_aload_n C rfl rfl ?_
    refine mh_gR C rfl rfl rfl (by decide) hf (fun x2 hf => ?_)
    refine mh_gI C rfl rfl rfl (by decide) hf (fun x3 hf => ?_)
    refine mh_if_eq C rfl hf (fun e_35 hf => ?_) (fun e_35 hf => ?_)
    · refine mg_sub (lv' := [(0, .ref v0), (2, .int v2)]) (by simp) ?_
      exact wX1_lightOf_40 C hRm hd hn hk hw hf
    · refine mg_iconst (v := 2) C rfl (by decide) ?_
      exact mh_ireturn C rfl (by omega) (by omega) rfl hf
def bX1_lightOf_0 (N : Nat)  (v0 : Nat) (v1 : Nat) (v2 : Int32) (c : mm_C) : mR Int32 :=
  Option.bind (gI c v1 7 0) fun x1 => if ¬ x1 = (1 : Int32) then (bX1_lightOf_20 N  v0 v1 v2 c) else (Option.bind (gR c v0 1 3) fun x2 => Option.bind (gI c x2 9 5) fun x3 => if x3 = 0 then (bX1_lightOf_20 N  v0 v1 v2 c) else (some (.inl (1 : Int32), c)))
set_option maxRecDepth 100000 in
theorem wX1_lightOf_0 {Z : mm_Z} {X : mm_T} {k w mc ms d n N : Nat} {Q : mm_O → mm_H → Prop} (C : mm_Ok Z qX1_lightOf X) (hRm : mt_R X = mm_rm d mc ms) (hd : 1 ≤ d) (hn : n + 1 < 1000000) (hk : k + 1 ≤ mc) (hw : w + 6 ≤ ms) {v0 : Nat} {v1 : Nat} {v2 : Int32} {c : mm_C} (hf : hO 0 ovI n (bX1_lightOf_0 N  v0 v1 v2 c) Q) : mG Z qX1_lightOf X k w mc ms Q (0, [(0, .ref v0), (1, .ref v1), (2, .int v2)], [], (n, c)) := by
  unfold bX1_lightOf_0 at hf
  refine mg_aload_n C rfl rfl ?_
  refine mh_gI C rfl rfl rfl (by decide) hf (fun x1 hf => ?_)
  refine mg_iconst (v := 1) C rfl (by decide) ?_
  refine mh_icmp_ne C rfl hf (fun e_5 hf => ?_) (fun e_5 hf => ?_)
  · exact wX1_lightOf_20 C hRm hd hn hk hw hf
  · refine mg_aload_n C rfl rfl ?_
    refine mh_gR C rfl rfl rfl (by decide) hf (fun x2 hf => ?_)
    refine mh_gI C rfl rfl rfl (by decide) hf (fun x3 hf => ?_)
    refine mh_if_eq C rfl hf (fun e_15 hf => ?_) (fun e_15 hf => ?_)
    · exact wX1_lightOf_20 C hRm hd hn hk hw hf
    · refine mg_iconst (v := 1) C rfl (by decide) ?_
      exact mh_ireturn C rfl (by omega) (by omega) rfl hf
def fX1_lightOf (N : Nat) (v0 : Nat) (v1 : Nat) (v2 : Int32) (c : mm_C) : mR Int32 := bX1_lightOf_0 N v0 v1 v2 c
set_option maxRecDepth 100000 in
theorem wX1_lightOf {Z : mm_Z} {d n N : Nat} (hd : 1 ≤ d) (hn : n + 1 < 1000000) {v0 : Nat} {v1 : Nat} {v2 : Int32} {c : mm_C} (hs : (fX1_lightOf N v0 v1 v2 c).isSome = true) : mC Z qX1_lightOf d 1 6 [.ref v0, .ref v1, .int v2] (n, c) (mP 0 ovI n (fX1_lightOf N v0 v1 v2 c)) := by
  refine mC_of gX1_lightOf (by decide +kernel) (Nat.le_of_ble_eq_true rfl) fun X C hRm => ?_
  have hf := hO_mP 0 ovI n hs
  have hk : 0 + 1 ≤ 1 := Nat.le_of_ble_eq_true rfl
  have hw : 0 + 6 ≤ 6 := Nat.le_of_ble_eq_true rfl
  show mG _ _ _ _ _ _ _ _ (0, [(0, .ref v0), (1, .ref v1), (2, .int v2)], [], (n, c))
  exact wX1_lightOf_0 C hRm hd hn hk hw hf
def bX1_hindranceOfMinute_48 (N : Nat)  (v0 : Nat) (v1 : Nat) (v2 : Int32) (c : mm_C) : mR Int32 :=
  Option.bind (gI c v1 7 2) fun x1 => Option.bind (gI c v0 1 4) fun x2 => if (v2 + x1) ≤ x2 then (some (.inl (0 : Int32), c)) else (some (.inl (6 : Int32), c))
set_option maxRecDepth 100000 in
theorem wX1_hindranceOfMinute_48 {Z : mm_Z} {X : mm_T} {k w mc ms d n N : Nat} {Q : mm_O → mm_H → Prop} (C : mm_Ok Z qX1_hindranceOfMinute X) (hRm : mt_R X = mm_rm d mc ms) (hd : 2 ≤ d) (hn : n + 1 < 1000000) (hk : k + 1 ≤ mc) (hw : w + 6 ≤ ms) {v0 : Nat} {v1 : Nat} {v2 : Int32} {c : mm_C} (hf : hO 0 ovI n (bX1_hindranceOfMinute_48 N  v0 v1 v2 c) Q) : mG Z qX1_hindranceOfMinute X k w mc ms Q (48, [(0, .ref v0), (1, .ref v1), (2, .int v2)], [], (n, c)) := by
  unfold bX1_hindranceOfMinute_48 at hf
  refine mg_iload_n C rfl rfl ?_
  refine mg_aload_n C rfl rfl ?_
  refine mh_gI C rfl rfl rfl (by decide) hf (fun x1 hf => ?_)
  refine mg_iadd C rfl ?_
  refine mg_aload_n C rfl rfl ?_
  refine mh_gI C rfl rfl rfl (by decide) hf (fun x2 hf => ?_)
  refine mh_icmp_le C rfl hf (fun e_58 hf => ?_) (fun e_58 hf => ?_)
  · refine mg_iconst (v := 0) C rfl (by decide) ?_
    exact mh_ireturn C rfl (by omega) (by omega) rfl hf
  · refine mg_bipush (v := 6) C rfl (by decide) ?_
    refine mg_goto C rfl ?_
    exact mh_ireturn C rfl (by omega) (by omega) rfl hf
def bX1_hindranceOfMinute_0 (N : Nat)  (v0 : Nat) (v1 : Nat) (v2 : Int32) (c : mm_C) : mR Int32 :=
  Option.bind (gI c v1 7 3) fun x1 => if v2 < x1 then (some (.inl (4 : Int32), c)) else (Option.bind (gI c v1 7 4) fun x2 => if v2 ≤ x2 then (Option.bind (gI c v1 7 1) fun x3 => if x3 = 0 then (bX1_hindranceOfMinute_48 N  v0 v1 v2 c) else (Option.bind (gI c v1 7 0) fun x4 => if x4 = (2 : Int32) then (bX1_hindranceOfMinute_48 N  v0 v1 v2 c) else (cV 1 v0 c (fX1_lightOf N v0 v1 v2 c) fun r5 c6 => Option.bind (gI c6 v1 7 1) fun x7 => if r5 = x7 then (bX1_hindranceOfMinute_48 N  v0 v1 v2 c6) else (some (.inl (5 : Int32), c6))))) else (some (.inl (4 : Int32), c)))
set_option maxRecDepth 100000 in
theorem wX1_hindranceOfMinute_0 {Z : mm_Z} {X : mm_T} {k w mc ms d n N : Nat} {Q : mm_O → mm_H → Prop} (C : mm_Ok Z qX1_hindranceOfMinute X) (hRm : mt_R X = mm_rm d mc ms) (hd : 2 ≤ d) (hn : n + 1 < 1000000) (hk : k + 1 ≤ mc) (hw : w + 6 ≤ ms) {v0 : Nat} {v1 : Nat} {v2 : Int32} {c : mm_C} (hf : hO 0 ovI n (bX1_hindranceOfMinute_0 N  v0 v1 v2 c) Q) : mG Z qX1_hindranceOfMinute X k w mc ms Q (0, [(0, .ref v0), (1, .ref v1), (2, .int v2)], [], (n, c)) := by
  unfold bX1_hindranceOfMinute_0 at hf
  refine mg_iload_n C rfl rfl ?_
  refine mg_aload_n C rfl rfl ?_
  refine mh_gI C rfl rfl rfl (by decide) hf (fun x1 hf => ?_)
  refine mh_icmp_lt C rfl hf (fun e_5 hf => ?_) (fun e_5 hf => ?_)
  · refine mg_iconst (v := 4) C rfl (by decide) ?_
    exact mh_ireturn C rfl (by omega) (by omega) rfl hf
  · refine mg_iload_n C rfl rfl ?_
    refine mg_aload_n C rfl rfl ?_
    refine mh_gI C rfl rfl rfl (by decide) hf (fun x2 hf => ?_)
    refine mh_icmp_le C rfl hf (fun e_13 hf => ?_) (fun e_13 hf => ?_)
    · refine mg_aload_n C rfl rfl ?_
      refine mh_gI C rfl rfl rfl (by decide) hf (fun x3 hf => ?_)
      refine mh_if_eq C rfl hf (fun e_22 hf => ?_) (fun e_22 hf => ?_)
      · exact wX1_hindranceOfMinute_48 C hRm hd hn hk hw hf
      · refine mg_aload_n C rfl rfl ?_
        refine mh_gI C rfl rfl rfl (by decide) hf (fun x4 hf => ?_)
        refine mg_iconst (v := 2) C rfl (by decide) ?_
        refine mh_icmp_eq C rfl hf (fun e_30 hf => ?_) (fun e_30 hf => ?_)
        · exact wX1_hindranceOfMinute_48 C hRm hd hn hk hw hf
        · refine mg_aload_n C rfl rfl ?_
          refine mg_aload_n C rfl rfl ?_
          refine mg_iload_n C rfl rfl ?_
          refine mh_cVI (M' := qX1_lightOf) C rfl rfl aX1_lightOf iX1_lightOf sX1_lightOf hRm (by omega) (by decide) (by omega) (by omega) rfl rfl rfl (Nat.le_of_ble_eq_true rfl) rfl hf (fun hs => wX1_lightOf (by omega) (by omega) hs) (fun r5 c6 hf => ?_)
          refine mg_aload_n C rfl rfl ?_
          refine mh_gI C rfl rfl rfl (by decide) hf (fun x7 hf => ?_)
          refine mh_icmp_eq C rfl hf (fun e_43 hf => ?_) (fun e_43 hf => ?_)
          · exact wX1_hindranceOfMinute_48 C hRm hd hn hk hw hf
          · refine mg_iconst (v := 5) C rfl (by decide) ?_
            exact mh_ireturn C rfl (by omega) (by omega) rfl hf
    · refine mg_iconst (v := 4) C rfl (by decide) ?_
      exact mh_ireturn C rfl (by omega) (by omega) rfl hf
def fX1_hindranceOfMinute (N : Nat) (v0 : Nat) (v1 : Nat) (v2 : Int32) (c : mm_C) : mR Int32 := bX1_hindranceOfMinute_0 N v0 v1 v2 c
set_option maxRecDepth 100000 in
theorem wX1_hindranceOfMinute {Z : mm_Z} {d n N : Nat} (hd : 2 ≤ d) (hn : n + 1 < 1000000) {v0 : Nat} {v1 : Nat} {v2 : Int32} {c : mm_C} (hs : (fX1_hindranceOfMinute N v0 v1 v2 c).isSome = true) : mC Z qX1_hindranceOfMinute d 1 6 [.ref v0, .ref v1, .int v2] (n, c) (mP 0 ovI n (fX1_hindranceOfMinute N v0 v1 v2 c)) := by
  refine mC_of gX1_hindranceOfMinute (by decide +kernel) (Nat.le_of_ble_eq_true rfl) fun X C hRm => ?_
  have hf := hO_mP 0 ovI n hs
  have hk : 0 + 1 ≤ 1 := Nat.le_of_ble_eq_true rfl
  have hw : 0 + 6 ≤ 6 := Nat.le_of_ble_eq_true rfl
  show mG _ _ _ _ _ _ _ _ (0, [(0, .ref v0), (1, .ref v1), (2, .int v2)], [], (n, c))
  exact wX1_hindranceOfMinute_0 C hRm hd hn hk hw hf
def bX1_hindrance_47 (N : Nat)  (v0 : Nat) (v2 : Int32) (v3 : Nat) (c : mm_C) : mR Int32 :=
  cV 7 v3 c (fX7_place N v3 c) fun r1 c2 => Option.bind (gR c2 v0 1 3) fun x3 => Option.bind (gI c2 x3 9 1) fun x4 => if r1 = x4 then (cV 1 v0 c2 (fX1_hindranceOfMinute N v0 v3 v2 c2) fun r5 c6 => some (.inl r5, c6)) else (some (.inl (3 : Int32), c2))
set_option maxRecDepth 100000 in
theorem wX1_hindrance_47 {Z : mm_Z} {X : mm_T} {k w mc ms d n N : Nat} {Q : mm_O → mm_H → Prop} (C : mm_Ok Z qX1_hindrance X) (hRm : mt_R X = mm_rm d mc ms) (hd : 3 ≤ d) (hn : n + 1 < 1000000) (hk : k + 1 ≤ mc) (hw : w + 6 ≤ ms) {v0 : Nat} {v2 : Int32} {v3 : Nat} {c : mm_C} (hf : hO 0 ovI n (bX1_hindrance_47 N  v0 v2 v3 c) Q) : mG Z qX1_hindrance X k w mc ms Q (47, [(0, .ref v0), (2, .int v2), (3, .ref v3)], [], (n, c)) := by
  unfold bX1_hindrance_47 at hf
  refine mg_aload_n C rfl rfl ?_
  refine mh_cVI (M' := qX7_place) C rfl rfl aX7_place iX7_place sX7_place hRm (by omega) (by decide) (by omega) (by omega) rfl rfl rfl (Nat.le_of_ble_eq_true rfl) rfl hf (fun hs => wX7_place (by omega) (by omega) hs) (fun r1 c2 hf => ?_)
  refine mg_aload_n C rfl rfl ?_
  refine mh_gR C rfl rfl rfl (by decide) hf (fun x3 hf => ?_)
  refine mh_gI C rfl rfl rfl (by decide) hf (fun x4 hf => ?_)
  refine mh_icmp_eq C rfl hf (fun e_58 hf => ?_) (fun e_58 hf => ?_)
  · refine mg_aload_n C rfl rfl ?_
    refine mg_aload_n C rfl rfl ?_
    refine mg_iload_n C rfl rfl ?_
    refine mh_cVI (M' := qX1_hindranceOfMinute) C rfl rfl aX1_hindranceOfMinute iX1_hindranceOfMinute sX1_hindranceOfMinute hRm (by omega) (by decide) (by omega) (by omega) rfl rfl rfl (Nat.le_of_ble_eq_true rfl) rfl hf (fun hs => wX1_hindranceOfMinute (by omega) (by omega) hs) (fun r5 c6 hf => ?_)
    exact mh_ireturn C rfl (by omega) (by omega) rfl hf
  · refine mg_iconst (v := 3) C rfl (by decide) ?_
    exact mh_ireturn C rfl (by omega) (by omega) rfl hf
def bX1_hindrance_0 (N : Nat)  (v0 : Nat) (v1 : Int32) (v2 : Int32) (c : mm_C) : mR Int32 :=
  Option.bind (gR c v0 1 2) fun x1 => Option.bind (gR c x1 3 6) fun x2 => Option.bind (aR (.object "CloudTakes$Shot") c x2 v1) fun x3 => Option.bind (gR c v0 1 3) fun x4 => cV 9 x4 c (fX9_isHad N x4 v1 c) fun r5 c6 => if r5 = 0 then (Option.bind (gI c6 x3 7 5) fun x7 => if x7 = (-1 : Int32) then (bX1_hindrance_47 N  v0 v2 x3 c6) else (Option.bind (gR c6 v0 1 3) fun x8 => Option.bind (gI c6 x3 7 5) fun x9 => cV 9 x8 c6 (fX9_isHad N x8 x9 c6) fun r10 c11 => if ¬ r10 = 0 then (bX1_hindrance_47 N  v0 v2 x3 c11) else (some (.inl (2 : Int32), c11)))) else (some (.inl (1 : Int32), c6))
set_option maxRecDepth 100000 in
theorem wX1_hindrance_0 {Z : mm_Z} {X : mm_T} {k w mc ms d n N : Nat} {Q : mm_O → mm_H → Prop} (C : mm_Ok Z qX1_hindrance X) (hRm : mt_R X = mm_rm d mc ms) (hd : 3 ≤ d) (hn : n + 1 < 1000000) (hk : k + 1 ≤ mc) (hw : w + 6 ≤ ms) {v0 : Nat} {v1 : Int32} {v2 : Int32} {c : mm_C} (hf : hO 0 ovI n (bX1_hindrance_0 N  v0 v1 v2 c) Q) : mG Z qX1_hindrance X k w mc ms Q (0, [(0, .ref v0), (1, .int v1), (2, .int v2)], [], (n, c)) := by
  unfold bX1_hindrance_0 at hf
  refine mg_aload_n C rfl rfl ?_
  refine mh_gR C rfl rfl rfl (by decide) hf (fun x1 hf => ?_)
  refine mh_gR C rfl rfl rfl (by decide) hf (fun x2 hf => ?_)
  refine mg_iload_n C rfl rfl ?_
  refine mh_aR (ti := 4) C rfl rfl rfl hf (fun x3 hf => ?_)
  refine mg_astore_n (lv' := [(0, .ref v0), (1, .int v1), (2, .int v2), (3, .ref x3)]) C rfl (Nat.le_of_ble_eq_true rfl) rfl ?_
  refine mg_aload_n C rfl rfl ?_
  refine mh_gR C rfl rfl rfl (by decide) hf (fun x4 hf => ?_)
  refine mg_iload_n C rfl rfl ?_
  refine mh_cVI (M' := qX9_isHad) C rfl rfl aX9_isHad iX9_isHad sX9_isHad hRm (by omega) (by decide) (by omega) (by omega) rfl rfl rfl (Nat.le_of_ble_eq_true rfl) rfl hf (fun hs => wX9_isHad (by omega) (by omega) hs) (fun r5 c6 hf => ?_)
  refine mh_if_eq C rfl hf (fun e_18 hf => ?_) (fun e_18 hf => ?_)
  · refine mg_aload_n C rfl rfl ?_
    refine mh_gI C rfl rfl rfl (by decide) hf (fun x7 hf => ?_)
    refine mg_iconst (v := (-1)) C rfl (by decide) ?_
    refine mh_icmp_eq C rfl hf (fun e_28 hf => ?_) (fun e_28 hf => ?_)
    · refine mg_sub (lv' := [(0, .ref v0), (2, .int v2), (3, .ref x3)]) (by simp) ?_
      exact wX1_hindrance_47 C hRm hd hn hk hw hf
    · refine mg_aload_n C rfl rfl ?_
      refine mh_gR C rfl rfl rfl (by decide) hf (fun x8 hf => ?_)
      refine mg_aload_n C rfl rfl ?_
      refine mh_gI C rfl rfl rfl (by decide) hf (fun x9 hf => ?_)
      refine mh_cVI (M' := qX9_isHad) C rfl rfl aX9_isHad iX9_isHad sX9_isHad hRm (by omega) (by decide) (by omega) (by omega) rfl rfl rfl (Nat.le_of_ble_eq_true rfl) rfl hf (fun hs => wX9_isHad (by omega) (by omega) hs) (fun r10 c11 hf => ?_)
      refine mh_if_ne C rfl hf (fun e_42 hf => ?_) (fun e_42 hf => ?_)
      · refine mg_sub (lv' := [(0, .ref v0), (2, .int v2), (3, .ref x3)]) (by simp) ?_
        exact wX1_hindrance_47 C hRm hd hn hk hw hf
      · refine mg_iconst (v := 2) C rfl (by decide) ?_
        exact mh_ireturn C rfl (by omega) (by omega) rfl hf
  · refine mg_iconst (v := 1) C rfl (by decide) ?_
    exact mh_ireturn C rfl (by omega) (by omega) rfl hf
def fX1_hindrance (N : Nat) (v0 : Nat) (v1 : Int32) (v2 : Int32) (c : mm_C) : mR Int32 := bX1_hindrance_0 N v0 v1 v2 c
set_option maxRecDepth 100000 in
theorem wX1_hindrance {Z : mm_Z} {d n N : Nat} (hd : 3 ≤ d) (hn : n + 1 < 1000000) {v0 : Nat} {v1 : Int32} {v2 : Int32} {c : mm_C} (hs : (fX1_hindrance N v0 v1 v2 c).isSome = true) : mC Z qX1_hindrance d 1 6 [.ref v0, .int v1, .int v2] (n, c) (mP 0 ovI n (fX1_hindrance N v0 v1 v2 c)) := by
  refine mC_of gX1_hindrance (by decide +kernel) (Nat.le_of_ble_eq_true rfl) fun X C hRm => ?_
  have hf := hO_mP 0 ovI n hs
  have hk : 0 + 1 ≤ 1 := Nat.le_of_ble_eq_true rfl
  have hw : 0 + 6 ≤ 6 := Nat.le_of_ble_eq_true rfl
  show mG _ _ _ _ _ _ _ _ (0, [(0, .ref v0), (1, .int v1), (2, .int v2)], [], (n, c))
  exact wX1_hindrance_0 C hRm hd hn hk hw hf
def bX1_hasSkyLight_35 (N : Nat)   (c : mm_C) : mR Int32 :=
  rZ (1 : Int32) c
set_option maxRecDepth 100000 in
theorem wX1_hasSkyLight_35 {Z : mm_Z} {X : mm_T} {k w mc ms d n N : Nat} {Q : mm_O → mm_H → Prop} (C : mm_Ok Z qX1_hasSkyLight X) (hRm : mt_R X = mm_rm d mc ms) (hd : 1 ≤ d) (hn : n + 1 < 1000000) (hk : k + 1 ≤ mc) (hw : w + 6 ≤ ms)  {c : mm_C} (hf : hO 0 ovI n (bX1_hasSkyLight_35 N   c) Q) : mG Z qX1_hasSkyLight X k w mc ms Q (35, [], [], (n, c)) := by
  unfold bX1_hasSkyLight_35 at hf
  refine mg_iconst (v := 1) C rfl (by decide) ?_
  refine mg_goto C rfl ?_
  exact mh_zreturn C rfl (by omega) (by omega) rfl hf
def bX1_hasSkyLight_0 (N : Nat)  (v0 : Nat) (v1 : Nat) (c : mm_C) : mR Int32 :=
  Option.bind (gI c v1 7 0) fun x1 => if x1 = 0 then (bX1_hasSkyLight_35 N  c) else (Option.bind (gI c v1 7 0) fun x2 => if ¬ x2 = (1 : Int32) then (rZ (0 : Int32) c) else (Option.bind (gR c v0 1 3) fun x3 => Option.bind (gI c x3 9 5) fun x4 => if ¬ x4 = 0 then (rZ (0 : Int32) c) else (Option.bind (gR c v0 1 3) fun x5 => Option.bind (gI c x5 9 6) fun x6 => if ¬ x6 = 0 then (rZ (0 : Int32) c) else (bX1_hasSkyLight_35 N  c))))
set_option maxRecDepth 100000 in
theorem wX1_hasSkyLight_0 {Z : mm_Z} {X : mm_T} {k w mc ms d n N : Nat} {Q : mm_O → mm_H → Prop} (C : mm_Ok Z qX1_hasSkyLight X) (hRm : mt_R X = mm_rm d mc ms) (hd : 1 ≤ d) (hn : n + 1 < 1000000) (hk : k + 1 ≤ mc) (hw : w + 6 ≤ ms) {v0 : Nat} {v1 : Nat} {c : mm_C} (hf : hO 0 ovI n (bX1_hasSkyLight_0 N  v0 v1 c) Q) : mG Z qX1_hasSkyLight X k w mc ms Q (0, [(0, .ref v0), (1, .ref v1)], [], (n, c)) := by
  unfold bX1_hasSkyLight_0 at hf
  refine mg_aload_n C rfl rfl ?_
  refine mh_gI C rfl rfl rfl (by decide) hf (fun x1 hf => ?_)
  refine mh_if_eq C rfl hf (fun e_4 hf => ?_) (fun e_4 hf => ?_)
  · refine mg_sub (lv' := []) (by simp) ?_
    exact wX1_hasSkyLight_35 C hRm hd hn hk hw hf
  · refine mg_aload_n C rfl rfl ?_
    refine mh_gI C rfl rfl rfl (by decide) hf (fun x2 hf => ?_)
    refine mg_iconst (v := 1) C rfl (by decide) ?_
    refine mh_icmp_ne C rfl hf (fun e_12 hf => ?_) (fun e_12 hf => ?_)
    · refine mg_iconst (v := 0) C rfl (by decide) ?_
      exact mh_zreturn C rfl (by omega) (by omega) rfl hf
    · refine mg_aload_n C rfl rfl ?_
      refine mh_gR C rfl rfl rfl (by decide) hf (fun x3 hf => ?_)
      refine mh_gI C rfl rfl rfl (by decide) hf (fun x4 hf => ?_)
      refine mh_if_ne C rfl hf (fun e_22 hf => ?_) (fun e_22 hf => ?_)
      · refine mg_iconst (v := 0) C rfl (by decide) ?_
        exact mh_zreturn C rfl (by omega) (by omega) rfl hf
      · refine mg_aload_n C rfl rfl ?_
        refine mh_gR C rfl rfl rfl (by decide) hf (fun x5 hf => ?_)
        refine mh_gI C rfl rfl rfl (by decide) hf (fun x6 hf => ?_)
        refine mh_if_ne C rfl hf (fun e_32 hf => ?_) (fun e_32 hf => ?_)
        · refine mg_iconst (v := 0) C rfl (by decide) ?_
          exact mh_zreturn C rfl (by omega) (by omega) rfl hf
        · refine mg_sub (lv' := []) (by simp) ?_
          exact wX1_hasSkyLight_35 C hRm hd hn hk hw hf
def fX1_hasSkyLight (N : Nat) (v0 : Nat) (v1 : Nat) (c : mm_C) : mR Int32 := bX1_hasSkyLight_0 N v0 v1 c
set_option maxRecDepth 100000 in
theorem wX1_hasSkyLight {Z : mm_Z} {d n N : Nat} (hd : 1 ≤ d) (hn : n + 1 < 1000000) {v0 : Nat} {v1 : Nat} {c : mm_C} (hs : (fX1_hasSkyLight N v0 v1 c).isSome = true) : mC Z qX1_hasSkyLight d 1 6 [.ref v0, .ref v1] (n, c) (mP 0 ovI n (fX1_hasSkyLight N v0 v1 c)) := by
  refine mC_of gX1_hasSkyLight (by decide +kernel) (Nat.le_of_ble_eq_true rfl) fun X C hRm => ?_
  have hf := hO_mP 0 ovI n hs
  have hk : 0 + 1 ≤ 1 := Nat.le_of_ble_eq_true rfl
  have hw : 0 + 6 ≤ 6 := Nat.le_of_ble_eq_true rfl
  show mG _ _ _ _ _ _ _ _ (0, [(0, .ref v0), (1, .ref v1)], [], (n, c))
  exact wX1_hasSkyLight_0 C hRm hd hn hk hw hf
def bX1_isSpoiltFrom_0 (N : Nat)  (v0 : Nat) (v1 : Nat) (v2 : Int32) (c : mm_C) : mR Int32 :=
  cV 1 v0 c (fX1_hasSkyLight N v0 v1 c) fun r1 c2 => if r1 = 0 then (rZ (0 : Int32) c2) else (Option.bind (gR c2 v0 1 0) fun x3 => Option.bind (aI c2 x3 v2) fun x4 => Option.bind (gI c2 v1 7 2) fun x5 => if x5 ≤ x4 then (rZ (0 : Int32) c2) else (rZ (1 : Int32) c2))
set_option maxRecDepth 100000 in
theorem wX1_isSpoiltFrom_0 {Z : mm_Z} {X : mm_T} {k w mc ms d n N : Nat} {Q : mm_O → mm_H → Prop} (C : mm_Ok Z qX1_isSpoiltFrom X) (hRm : mt_R X = mm_rm d mc ms) (hd : 2 ≤ d) (hn : n + 1 < 1000000) (hk : k + 1 ≤ mc) (hw : w + 6 ≤ ms) {v0 : Nat} {v1 : Nat} {v2 : Int32} {c : mm_C} (hf : hO 0 ovI n (bX1_isSpoiltFrom_0 N  v0 v1 v2 c) Q) : mG Z qX1_isSpoiltFrom X k w mc ms Q (0, [(0, .ref v0), (1, .ref v1), (2, .int v2)], [], (n, c)) := by
  unfold bX1_isSpoiltFrom_0 at hf
  refine mg_aload_n C rfl rfl ?_
  refine mg_aload_n C rfl rfl ?_
  refine mh_cVI (M' := qX1_hasSkyLight) C rfl rfl aX1_hasSkyLight iX1_hasSkyLight sX1_hasSkyLight hRm (by omega) (by decide) (by omega) (by omega) rfl rfl rfl (Nat.le_of_ble_eq_true rfl) rfl hf (fun hs => wX1_hasSkyLight (by omega) (by omega) hs) (fun r1 c2 hf => ?_)
  refine mh_if_eq C rfl hf (fun e_5 hf => ?_) (fun e_5 hf => ?_)
  · refine mg_iconst (v := 0) C rfl (by decide) ?_
    exact mh_zreturn C rfl (by omega) (by omega) rfl hf
  · refine mg_aload_n C rfl rfl ?_
    refine mh_gR C rfl rfl rfl (by decide) hf (fun x3 hf => ?_)
    refine mg_iload_n C rfl rfl ?_
    refine mh_aI C rfl hf (fun x4 hf => ?_)
    refine mg_aload_n C rfl rfl ?_
    refine mh_gI C rfl rfl rfl (by decide) hf (fun x5 hf => ?_)
    refine mh_icmp_ge C rfl hf (fun e_18 hf => ?_) (fun e_18 hf => ?_)
    · refine mg_iconst (v := 0) C rfl (by decide) ?_
      exact mh_zreturn C rfl (by omega) (by omega) rfl hf
    · refine mg_iconst (v := 1) C rfl (by decide) ?_
      refine mg_goto C rfl ?_
      exact mh_zreturn C rfl (by omega) (by omega) rfl hf
def fX1_isSpoiltFrom (N : Nat) (v0 : Nat) (v1 : Nat) (v2 : Int32) (c : mm_C) : mR Int32 := bX1_isSpoiltFrom_0 N v0 v1 v2 c
set_option maxRecDepth 100000 in
theorem wX1_isSpoiltFrom {Z : mm_Z} {d n N : Nat} (hd : 2 ≤ d) (hn : n + 1 < 1000000) {v0 : Nat} {v1 : Nat} {v2 : Int32} {c : mm_C} (hs : (fX1_isSpoiltFrom N v0 v1 v2 c).isSome = true) : mC Z qX1_isSpoiltFrom d 1 6 [.ref v0, .ref v1, .int v2] (n, c) (mP 0 ovI n (fX1_isSpoiltFrom N v0 v1 v2 c)) := by
  refine mC_of gX1_isSpoiltFrom (by decide +kernel) (Nat.le_of_ble_eq_true rfl) fun X C hRm => ?_
  have hf := hO_mP 0 ovI n hs
  have hk : 0 + 1 ≤ 1 := Nat.le_of_ble_eq_true rfl
  have hw : 0 + 6 ≤ 6 := Nat.le_of_ble_eq_true rfl
  show mG _ _ _ _ _ _ _ _ (0, [(0, .ref v0), (1, .ref v1), (2, .int v2)], [], (n, c))
  exact wX1_isSpoiltFrom_0 C hRm hd hn hk hw hf
def bX1_wouldBeHad_0 (N : Nat)  (v0 : Nat) (v1 : Nat) (v2 : Int32) (c : mm_C) : mR Int32 :=
  cV 1 v0 c (fX1_hindranceOfMinute N v0 v1 v2 c) fun r1 c2 => if ¬ r1 = 0 then (rZ (0 : Int32) c2) else (cV 1 v0 c2 (fX1_isSpoiltFrom N v0 v1 v2 c2) fun r3 c4 => if ¬ r3 = 0 then (rZ (0 : Int32) c4) else (rZ (1 : Int32) c4))
set_option maxRecDepth 100000 in
theorem wX1_wouldBeHad_0 {Z : mm_Z} {X : mm_T} {k w mc ms d n N : Nat} {Q : mm_O → mm_H → Prop} (C : mm_Ok Z qX1_wouldBeHad X) (hRm : mt_R X = mm_rm d mc ms) (hd : 3 ≤ d) (hn : n + 1 < 1000000) (hk : k + 1 ≤ mc) (hw : w + 6 ≤ ms) {v0 : Nat} {v1 : Nat} {v2 : Int32} {c : mm_C} (hf : hO 0 ovI n (bX1_wouldBeHad_0 N  v0 v1 v2 c) Q) : mG Z qX1_wouldBeHad X k w mc ms Q (0, [(0, .ref v0), (1, .ref v1), (2, .int v2)], [], (n, c)) := by
  unfold bX1_wouldBeHad_0 at hf
  refine mg_aload_n C rfl rfl ?_
  refine mg_aload_n C rfl rfl ?_
  refine mg_iload_n C rfl rfl ?_
  refine mh_cVI (M' := qX1_hindranceOfMinute) C rfl rfl aX1_hindranceOfMinute iX1_hindranceOfMinute sX1_hindranceOfMinute hRm (by omega) (by decide) (by omega) (by omega) rfl rfl rfl (Nat.le_of_ble_eq_true rfl) rfl hf (fun hs => wX1_hindranceOfMinute (by omega) (by omega) hs) (fun r1 c2 hf => ?_)
  refine mh_if_ne C rfl hf (fun e_6 hf => ?_) (fun e_6 hf => ?_)
  · refine mg_iconst (v := 0) C rfl (by decide) ?_
    exact mh_zreturn C rfl (by omega) (by omega) rfl hf
  · refine mg_aload_n C rfl rfl ?_
    refine mg_aload_n C rfl rfl ?_
    refine mg_iload_n C rfl rfl ?_
    refine mh_cVI (M' := qX1_isSpoiltFrom) C rfl rfl aX1_isSpoiltFrom iX1_isSpoiltFrom sX1_isSpoiltFrom hRm (by omega) (by decide) (by omega) (by omega) rfl rfl rfl (Nat.le_of_ble_eq_true rfl) rfl hf (fun hs => wX1_isSpoiltFrom (by omega) (by omega) hs) (fun r3 c4 hf => ?_)
    refine mh_if_ne C rfl hf (fun e_15 hf => ?_) (fun e_15 hf => ?_)
    · refine mg_iconst (v := 0) C rfl (by decide) ?_
      exact mh_zreturn C rfl (by omega) (by omega) rfl hf
    · refine mg_iconst (v := 1) C rfl (by decide) ?_
      refine mg_goto C rfl ?_
      exact mh_zreturn C rfl (by omega) (by omega) rfl hf
def fX1_wouldBeHad (N : Nat) (v0 : Nat) (v1 : Nat) (v2 : Int32) (c : mm_C) : mR Int32 := bX1_wouldBeHad_0 N v0 v1 v2 c
set_option maxRecDepth 100000 in
theorem wX1_wouldBeHad {Z : mm_Z} {d n N : Nat} (hd : 3 ≤ d) (hn : n + 1 < 1000000) {v0 : Nat} {v1 : Nat} {v2 : Int32} {c : mm_C} (hs : (fX1_wouldBeHad N v0 v1 v2 c).isSome = true) : mC Z qX1_wouldBeHad d 1 6 [.ref v0, .ref v1, .int v2] (n, c) (mP 0 ovI n (fX1_wouldBeHad N v0 v1 v2 c)) := by
  refine mC_of gX1_wouldBeHad (by decide +kernel) (Nat.le_of_ble_eq_true rfl) fun X C hRm => ?_
  have hf := hO_mP 0 ovI n hs
  have hk : 0 + 1 ≤ 1 := Nat.le_of_ble_eq_true rfl
  have hw : 0 + 6 ≤ 6 := Nat.le_of_ble_eq_true rfl
  show mG _ _ _ _ _ _ _ _ (0, [(0, .ref v0), (1, .ref v1), (2, .int v2)], [], (n, c))
  exact wX1_wouldBeHad_0 C hRm hd hn hk hw hf
def bX1_shoots_121 (N : Nat)  (v3 : Int32) (c : mm_C) : mR Int32 :=
  if ¬ v3 = 0 then (rZ (0 : Int32) c) else (rZ (1 : Int32) c)
set_option maxRecDepth 100000 in
theorem wX1_shoots_121 {Z : mm_Z} {X : mm_T} {k w mc ms d n N : Nat} {Q : mm_O → mm_H → Prop} (C : mm_Ok Z qX1_shoots X) (hRm : mt_R X = mm_rm d mc ms) (hd : 3 ≤ d) (hn : n + 1 < 1000000) (hk : k + 1 ≤ mc) (hw : w + 6 ≤ ms) {v3 : Int32} {c : mm_C} (hf : hO 0 ovI n (bX1_shoots_121 N  v3 c) Q) : mG Z qX1_shoots X k w mc ms Q (121, [(3, .int v3)], [], (n, c)) := by
  unfold bX1_shoots_121 at hf
  refine mg_iload_n C rfl rfl ?_
  refine mh_if_ne C rfl hf (fun e_122 hf => ?_) (fun e_122 hf => ?_)
  · refine mg_iconst (v := 0) C rfl (by decide) ?_
    exact mh_zreturn C rfl (by omega) (by omega) rfl hf
  · refine mg_iconst (v := 1) C rfl (by decide) ?_
    refine mg_goto C rfl ?_
    exact mh_zreturn C rfl (by omega) (by omega) rfl hf
def bX1_shoots_48 (N : Nat)  (v0 : Nat) (v1 : Int32) (v3 : Int32) (s0 : Int32) (c : mm_C) : mR Int32 :=
  Option.bind (gR c v0 1 3) fun x1 => Option.bind (gI c x1 9 0) fun x2 => Option.bind (pI c x1 9 0 (x2 + s0)) fun c3 => Option.bind (gR c3 v0 1 3) fun x4 => Option.bind (gI c3 x4 9 3) fun x5 => Option.bind (pI c3 x4 9 3 (x5 + s0)) fun c6 => Option.bind (gR c6 v0 1 3) fun x7 => Option.bind (pI c6 x7 9 4 (0 : Int32)) fun c8 => if v3 = 0 then (Option.bind (gR c8 v0 1 3) fun x9 => Option.bind (gI c8 x9 9 2) fun x10 => Option.bind (pI c8 x9 9 2 (x10 ||| ((1 : Int32) <<< (v1 &&& 31)))) fun c11 => bX1_shoots_121 N  v3 c11) else (Option.bind (gR c8 v0 1 3) fun x12 => Option.bind (gR c8 x12 9 7) fun x13 => Option.bind (aI c8 x13 v1) fun x14 => Option.bind (tI c8 x13 v1 (x14 + (1 : Int32))) fun c15 => bX1_shoots_121 N  v3 c15)
set_option maxRecDepth 100000 in
theorem wX1_shoots_48 {Z : mm_Z} {X : mm_T} {k w mc ms d n N : Nat} {Q : mm_O → mm_H → Prop} (C : mm_Ok Z qX1_shoots X) (hRm : mt_R X = mm_rm d mc ms) (hd : 3 ≤ d) (hn : n + 1 < 1000000) (hk : k + 1 ≤ mc) (hw : w + 6 ≤ ms) {v0 : Nat} {v1 : Int32} {v3 : Int32} {s0 : Int32} {c : mm_C} (hf : hO 0 ovI n (bX1_shoots_48 N  v0 v1 v3 s0 c) Q) : mG Z qX1_shoots X k w mc ms Q (48, [(0, .ref v0), (1, .int v1), (3, .int v3)], [.int s0], (n, c)) := by
  unfold bX1_shoots_48 at hf
  refine mg_istore (lv' := [(0, .ref v0), (1, .int v1), (3, .int v3), (4, .int s0)]) C rfl (Nat.le_of_ble_eq_true rfl) rfl ?_
  refine mg_aload_n C rfl rfl ?_
  refine mh_gR C rfl rfl rfl (by decide) hf (fun x1 hf => ?_)
  refine mg_dup C rfl rfl ?_
  refine mh_gI C rfl rfl rfl (by decide) hf (fun x2 hf => ?_)
  refine mg_iload C rfl rfl ?_
  refine mg_iadd C rfl ?_
  refine mh_pI C rfl rfl rfl (by decide) rfl rfl rfl hf (fun c3 hf => ?_)
  refine mg_aload_n C rfl rfl ?_
  refine mh_gR C rfl rfl rfl (by decide) hf (fun x4 hf => ?_)
  refine mg_dup C rfl rfl ?_
  refine mh_gI C rfl rfl rfl (by decide) hf (fun x5 hf => ?_)
  refine mg_iload C rfl rfl ?_
  refine mg_iadd C rfl ?_
  refine mh_pI C rfl rfl rfl (by decide) rfl rfl rfl hf (fun c6 hf => ?_)
  refine mg_aload_n C rfl rfl ?_
  refine mh_gR C rfl rfl rfl (by decide) hf (fun x7 hf => ?_)
  refine mg_iconst (v := 0) C rfl (by decide) ?_
  refine mh_pI C rfl rfl rfl (by decide) rfl rfl rfl hf (fun c8 hf => ?_)
  refine mg_iload_n C rfl rfl ?_
  refine mh_if_eq C rfl hf (fun e_87 hf => ?_) (fun e_87 hf => ?_)
  · refine mg_aload_n C rfl rfl ?_
    refine mh_gR C rfl rfl rfl (by decide) hf (fun x9 hf => ?_)
    refine mg_dup C rfl rfl ?_
    refine mh_gI C rfl rfl rfl (by decide) hf (fun x10 hf => ?_)
    refine mg_iconst (v := 1) C rfl (by decide) ?_
    refine mg_iload_n C rfl rfl ?_
    refine mg_ishl C rfl ?_
    refine mg_ior C rfl ?_
    refine mh_pI C rfl rfl rfl (by decide) rfl rfl rfl hf (fun c11 hf => ?_)
    refine mg_sub (lv' := [(3, .int v3)]) (by simp) ?_
    exact wX1_shoots_121 C hRm hd hn hk hw hf
  · refine mg_aload_n C rfl rfl ?_
    refine mh_gR C rfl rfl rfl (by decide) hf (fun x12 hf => ?_)
    refine mh_gR C rfl rfl rfl (by decide) hf (fun x13 hf => ?_)
    refine mg_iload_n C rfl rfl ?_
    refine mg_dup2 C rfl rfl rfl ?_
    refine mh_aI C rfl hf (fun x14 hf => ?_)
    refine mg_iconst (v := 1) C rfl (by decide) ?_
    refine mg_iadd C rfl ?_
    refine mh_tI C rfl hf (fun c15 hf => ?_)
    refine mg_goto C rfl ?_
    refine mg_sub (lv' := [(3, .int v3)]) (by simp) ?_
    exact wX1_shoots_121 C hRm hd hn hk hw hf
def bX1_shoots_0 (N : Nat)  (v0 : Nat) (v1 : Int32) (c : mm_C) : mR Int32 :=
  Option.bind (gR c v0 1 2) fun x1 => Option.bind (gR c x1 3 6) fun x2 => Option.bind (aR (.object "CloudTakes$Shot") c x2 v1) fun x3 => Option.bind (gR c v0 1 3) fun x4 => Option.bind (gI c x4 9 0) fun x5 => cV 1 v0 c (fX1_isSpoiltFrom N v0 x3 x5 c) fun r6 c7 => if r6 = 0 then (Option.bind (gI c7 x3 7 2) fun x8 => bX1_shoots_48 N  v0 v1 r6 x8 c7) else (Option.bind (gR c7 v0 1 0) fun x9 => Option.bind (gR c7 v0 1 3) fun x10 => Option.bind (gI c7 x10 9 0) fun x11 => Option.bind (aI c7 x9 x11) fun x12 => bX1_shoots_48 N  v0 v1 r6 (x12 + (1 : Int32)) c7)
set_option maxRecDepth 100000 in
theorem wX1_shoots_0 {Z : mm_Z} {X : mm_T} {k w mc ms d n N : Nat} {Q : mm_O → mm_H → Prop} (C : mm_Ok Z qX1_shoots X) (hRm : mt_R X = mm_rm d mc ms) (hd : 3 ≤ d) (hn : n + 1 < 1000000) (hk : k + 1 ≤ mc) (hw : w + 6 ≤ ms) {v0 : Nat} {v1 : Int32} {c : mm_C} (hf : hO 0 ovI n (bX1_shoots_0 N  v0 v1 c) Q) : mG Z qX1_shoots X k w mc ms Q (0, [(0, .ref v0), (1, .int v1)], [], (n, c)) := by
  unfold bX1_shoots_0 at hf
  refine mg_aload_n C rfl rfl ?_
  refine mh_gR C rfl rfl rfl (by decide) hf (fun x1 hf => ?_)
  refine mh_gR C rfl rfl rfl (by decide) hf (fun x2 hf => ?_)
  refine mg_iload_n C rfl rfl ?_
  refine mh_aR (ti := 4) C rfl rfl rfl hf (fun x3 hf => ?_)
  refine mg_astore_n (lv' := [(0, .ref v0), (1, .int v1), (2, .ref x3)]) C rfl (Nat.le_of_ble_eq_true rfl) rfl ?_
  refine mg_aload_n C rfl rfl ?_
  refine mg_aload_n C rfl rfl ?_
  refine mg_aload_n C rfl rfl ?_
  refine mh_gR C rfl rfl rfl (by decide) hf (fun x4 hf => ?_)
  refine mh_gI C rfl rfl rfl (by decide) hf (fun x5 hf => ?_)
  refine mh_cVI (M' := qX1_isSpoiltFrom) C rfl rfl aX1_isSpoiltFrom iX1_isSpoiltFrom sX1_isSpoiltFrom hRm (by omega) (by decide) (by omega) (by omega) rfl rfl rfl (Nat.le_of_ble_eq_true rfl) rfl hf (fun hs => wX1_isSpoiltFrom (by omega) (by omega) hs) (fun r6 c7 hf => ?_)
  refine mg_istore_n (lv' := [(0, .ref v0), (1, .int v1), (2, .ref x3), (3, .int r6)]) C rfl (Nat.le_of_ble_eq_true rfl) rfl ?_
  refine mg_iload_n C rfl rfl ?_
  refine mh_if_eq C rfl hf (fun e_24 hf => ?_) (fun e_24 hf => ?_)
  · refine mg_aload_n C rfl rfl ?_
    refine mh_gI C rfl rfl rfl (by decide) hf (fun x8 hf => ?_)
    refine mg_sub (lv' := [(0, .ref v0), (1, .int v1), (3, .int r6)]) (by simp) ?_
    exact wX1_shoots_48 C hRm hd hn hk hw hf
  · refine mg_aload_n C rfl rfl ?_
    refine mh_gR C rfl rfl rfl (by decide) hf (fun x9 hf => ?_)
    refine mg_aload_n C rfl rfl ?_
    refine mh_gR C rfl rfl rfl (by decide) hf (fun x10 hf => ?_)
    refine mh_gI C rfl rfl rfl (by decide) hf (fun x11 hf => ?_)
    refine mh_aI C rfl hf (fun x12 hf => ?_)
    refine mg_iconst (v := 1) C rfl (by decide) ?_
    refine mg_iadd C rfl ?_
    refine mg_goto C rfl ?_
    refine mg_sub (lv' := [(0, .ref v0), (1, .int v1), (3, .int r6)]) (by simp) ?_
    exact wX1_shoots_48 C hRm hd hn hk hw hf
def fX1_shoots (N : Nat) (v0 : Nat) (v1 : Int32) (c : mm_C) : mR Int32 := bX1_shoots_0 N v0 v1 c
set_option maxRecDepth 100000 in
theorem wX1_shoots {Z : mm_Z} {d n N : Nat} (hd : 3 ≤ d) (hn : n + 1 < 1000000) {v0 : Nat} {v1 : Int32} {c : mm_C} (hs : (fX1_shoots N v0 v1 c).isSome = true) : mC Z qX1_shoots d 1 6 [.ref v0, .int v1] (n, c) (mP 0 ovI n (fX1_shoots N v0 v1 c)) := by
  refine mC_of gX1_shoots (by decide +kernel) (Nat.le_of_ble_eq_true rfl) fun X C hRm => ?_
  have hf := hO_mP 0 ovI n hs
  have hk : 0 + 1 ≤ 1 := Nat.le_of_ble_eq_true rfl
  have hw : 0 + 6 ≤ 6 := Nat.le_of_ble_eq_true rfl
  show mG _ _ _ _ _ _ _ _ (0, [(0, .ref v0), (1, .int v1)], [], (n, c))
  exact wX1_shoots_0 C hRm hd hn hk hw hf
