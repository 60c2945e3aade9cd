/- needs: 15.acall 15.fun 16.e1 16.aJ -/
def bX6_findFirstChances_65 (N : Nat)  (k33 : Nat → Nat → Nat → Int32 → mm_C → mR Unit) (v0 : Nat) (v2 : Nat) (v3 : Nat) (v4 : Int32) (s0 : Nat) (s1 : Int32) (s2 : Int32) (c : mm_C) : mR Unit :=
  Option.bind (tI c s0 s1 s2) fun c1 => k33 v0 v2 v3 (v4 + (-1)) c1
set_option maxRecDepth 100000 in
theorem wX6_findFirstChances_65 {Z : mm_Z} {X : mm_T} {k w mc ms d n N : Nat} {Q : mm_O → mm_H → Prop} (C : mm_Ok Z qX6_findFirstChances X) (hRm : mt_R X = mm_rm d mc ms) (hd : 4 ≤ d) (hn : n + 1 < 1000000) (hk : k + 1 ≤ mc) (hw : w + 6 ≤ ms) {k33 : Nat → Nat → Nat → Int32 → mm_C → mR Unit} (hk33 : ∀ (v0 : Nat) (v2 : Nat) (v3 : Nat) (v4 : Int32) (c : mm_C), hO 0 ovU n (k33 v0 v2 v3 v4 c) Q → mG Z qX6_findFirstChances X k w mc ms Q (33, [(0, .ref v0), (2, .ref v2), (3, .ref v3), (4, .int v4)], [], (n, c))) {v0 : Nat} {v2 : Nat} {v3 : Nat} {v4 : Int32} {s0 : Nat} {s1 : Int32} {s2 : Int32} {c : mm_C} (hf : hO 0 ovU n (bX6_findFirstChances_65 N  k33 v0 v2 v3 v4 s0 s1 s2 c) Q) : mG Z qX6_findFirstChances X k w mc ms Q (65, [(0, .ref v0), (2, .ref v2), (3, .ref v3), (4, .int v4)], [.int s2, .int s1, .ref s0], (n, c)) := by
  unfold bX6_findFirstChances_65 at hf
  refine mh_tI C rfl hf (fun c1 hf => ?_)
  refine mg_iinc (lv' := [(0, .ref v0), (2, .ref v2), (3, .ref v3), (4, .int (v4 + (-1)))]) C rfl (Nat.le_of_ble_eq_true rfl) rfl (show _ + Int32.ofInt (-1) = _ + (-1) by congr 1) rfl ?_
  refine mg_goto C rfl ?_
  exact hk33 _ _ _ _ _ hf
def bX6_findFirstChances_33 (N : Nat)  (k33 : Nat → Nat → Nat → Int32 → mm_C → mR Unit) (v0 : Nat) (v2 : Nat) (v3 : Nat) (v4 : Int32) (c : mm_C) : mR Unit :=
  if v4 < 0 then (some (.inl (), c)) else (Option.bind (gR c v0 6 5) fun x1 => cV 1 x1 c (fX1_wouldBeHad N x1 v3 v4 c) fun r2 c3 => if r2 = 0 then (Option.bind (aI c3 v2 (v4 + (1 : Int32))) fun x4 => bX6_findFirstChances_65 N  k33 v0 v2 v3 v4 v2 v4 x4 c3) else (bX6_findFirstChances_65 N  k33 v0 v2 v3 v4 v2 v4 v4 c3))
set_option maxRecDepth 100000 in
theorem wX6_findFirstChances_33 {Z : mm_Z} {X : mm_T} {k w mc ms d n N : Nat} {Q : mm_O → mm_H → Prop} (C : mm_Ok Z qX6_findFirstChances X) (hRm : mt_R X = mm_rm d mc ms) (hd : 4 ≤ d) (hn : n + 1 < 1000000) (hk : k + 1 ≤ mc) (hw : w + 6 ≤ ms) {k33 : Nat → Nat → Nat → Int32 → mm_C → mR Unit} (hk33 : ∀ (v0 : Nat) (v2 : Nat) (v3 : Nat) (v4 : Int32) (c : mm_C), hO 0 ovU n (k33 v0 v2 v3 v4 c) Q → mG Z qX6_findFirstChances X k w mc ms Q (33, [(0, .ref v0), (2, .ref v2), (3, .ref v3), (4, .int v4)], [], (n, c))) {v0 : Nat} {v2 : Nat} {v3 : Nat} {v4 : Int32} {c : mm_C} (hf : hO 0 ovU n (bX6_findFirstChances_33 N  k33 v0 v2 v3 v4 c) Q) : mG Z qX6_findFirstChances X k w mc ms Q (33, [(0, .ref v0), (2, .ref v2), (3, .ref v3), (4, .int v4)], [], (n, c)) := by
  unfold bX6_findFirstChances_33 at hf
  refine mg_iload C rfl rfl ?_
  refine mh_if_lt C rfl hf (fun e_35 hf => ?_) (fun e_35 hf => ?_)
  · exact mh_return C rfl (by omega) (by omega) rfl hf
  · refine mg_aload_n C rfl rfl ?_
    refine mg_iload C rfl rfl ?_
    refine mg_aload_n C rfl rfl ?_
    refine mh_gR C rfl rfl rfl (by decide) hf (fun x1 hf => ?_)
    refine mg_aload_n C rfl rfl ?_
    refine mg_iload C rfl rfl ?_
    refine mh_cVI (M' := qX1_wouldBeHad) C rfl rfl aX1_wouldBeHad iX1_wouldBeHad sX1_wouldBeHad hRm (by omega) (by decide) (by omega) (by omega) rfl rfl rfl (Nat.le_of_ble_eq_true rfl) rfl hf (fun hs => wX1_wouldBeHad (by omega) (by omega) hs) (fun r2 c3 hf => ?_)
    refine mh_if_eq C rfl hf (fun e_51 hf => ?_) (fun e_51 hf => ?_)
    · refine mg_aload_n C rfl rfl ?_
      refine mg_iload C rfl rfl ?_
      refine mg_iconst (v := 1) C rfl (by decide) ?_
      refine mg_iadd C rfl ?_
      refine mh_aI C rfl hf (fun x4 hf => ?_)
      exact wX6_findFirstChances_65 C hRm hd hn hk hw hk33 hf
    · refine mg_iload C rfl rfl ?_
      refine mg_goto C rfl ?_
      exact wX6_findFirstChances_65 C hRm hd hn hk hw hk33 hf
def lX6_findFirstChances_33 (N : Nat)  : Nat → Nat → Nat → Nat → Int32 → mm_C → mR Unit
  | 0, _, _, _, _, _ => none
  | m + 1, v0, v2, v3, v4, c => bX6_findFirstChances_33 N  (lX6_findFirstChances_33 N  m) v0 v2 v3 v4 c
theorem WX6_findFirstChances_33 {Z : mm_Z} {X : mm_T} {k w mc ms d n N : Nat} {Q : mm_O → mm_H → Prop} (C : mm_Ok Z qX6_findFirstChances X) (hRm : mt_R X = mm_rm d mc ms) (hd : 4 ≤ d) (hn : n + 1 < 1000000) (hk : k + 1 ≤ mc) (hw : w + 6 ≤ ms) : ∀ (m : Nat) {v0 : Nat} {v2 : Nat} {v3 : Nat} {v4 : Int32} {c : mm_C} (hf : hO 0 ovU n (lX6_findFirstChances_33 N  m v0 v2 v3 v4 c) Q), mG Z qX6_findFirstChances X k w mc ms Q (33, [(0, .ref v0), (2, .ref v2), (3, .ref v3), (4, .int v4)], [], (n, c)) := by
  intro m
  induction m with
  | zero => intro v0 v2 v3 v4 c hf; exact absurd hf hO_none
  | succ m ih => intro v0 v2 v3 v4 c hf; exact wX6_findFirstChances_33 C hRm hd hn hk hw (fun v0 v2 v3 v4 c hf => ih hf) hf
def bX6_findFirstChances_0 (N : Nat)  (v0 : Nat) (v1 : Int32) (c : mm_C) : mR Unit :=
  Option.bind (gR c v0 6 9) fun x1 => Option.bind (aR (.array .int) c x1 v1) fun x2 => Option.bind (gR c v0 6 6) fun x3 => Option.bind (gR c x3 3 6) fun x4 => Option.bind (aR (.object "CloudTakes$Shot") c x4 v1) fun x5 => Option.bind (gI c v0 6 8) fun x6 => Option.bind (tI c x2 x6 (1000000 : Int32)) fun c7 => Option.bind (gI c7 v0 6 8) fun x8 => lX6_findFirstChances_33 N  N v0 x2 x5 (x8 - (1 : Int32)) c7
set_option maxRecDepth 100000 in
theorem wX6_findFirstChances_0 {Z : mm_Z} {X : mm_T} {k w mc ms d n N : Nat} {Q : mm_O → mm_H → Prop} (C : mm_Ok Z qX6_findFirstChances X) (hRm : mt_R X = mm_rm d mc ms) (hd : 4 ≤ d) (hn : n + 1 < 1000000) (hk : k + 1 ≤ mc) (hw : w + 6 ≤ ms) {v0 : Nat} {v1 : Int32} {c : mm_C} (hf : hO 0 ovU n (bX6_findFirstChances_0 N  v0 v1 c) Q) : mG Z qX6_findFirstChances X k w mc ms Q (0, [(0, .ref v0), (1, .int v1)], [], (n, c)) := by
  unfold bX6_findFirstChances_0 at hf
  refine mg_aload_n C rfl rfl ?_
  refine mh_gR C rfl rfl rfl (by decide) hf (fun x1 hf => ?_)
  refine mg_iload_n C rfl rfl ?_
  refine mh_aR (ti := 7) C rfl rfl rfl hf (fun x2 hf => ?_)
  refine mg_astore_n (lv' := [(0, .ref v0), (1, .int v1), (2, .ref x2)]) C rfl (Nat.le_of_ble_eq_true rfl) rfl ?_
  refine mg_aload_n C rfl rfl ?_
  refine mh_gR C rfl rfl rfl (by decide) hf (fun x3 hf => ?_)
  refine mh_gR C rfl rfl rfl (by decide) hf (fun x4 hf => ?_)
  refine mg_iload_n C rfl rfl ?_
  refine mh_aR (ti := 4) C rfl rfl rfl hf (fun x5 hf => ?_)
  refine mg_astore_n (lv' := [(0, .ref v0), (1, .int v1), (2, .ref x2), (3, .ref x5)]) C rfl (Nat.le_of_ble_eq_true rfl) rfl ?_
  refine mg_aload_n C rfl rfl ?_
  refine mg_aload_n C rfl rfl ?_
  refine mh_gI C rfl rfl rfl (by decide) hf (fun x6 hf => ?_)
  refine mg_ldc C rfl rfl ?_
  refine mh_tI C rfl hf (fun c7 hf => ?_)
  refine mg_aload_n C rfl rfl ?_
  refine mh_gI C rfl rfl rfl (by decide) hf (fun x8 hf => ?_)
  refine mg_iconst (v := 1) C rfl (by decide) ?_
  refine mg_isub C rfl ?_
  refine mg_istore (lv' := [(0, .ref v0), (1, .int v1), (2, .ref x2), (3, .ref x5), (4, .int (x8 - (1 : Int32)))]) C rfl (Nat.le_of_ble_eq_true rfl) rfl ?_
  refine mg_sub (lv' := [(0, .ref v0), (2, .ref x2), (3, .ref x5), (4, .int (x8 - (1 : Int32)))]) (by simp) ?_
  exact WX6_findFirstChances_33 C hRm hd hn hk hw N hf
def fX6_findFirstChances (N : Nat) (v0 : Nat) (v1 : Int32) (c : mm_C) : mR Unit := bX6_findFirstChances_0 N v0 v1 c
set_option maxRecDepth 100000 in
theorem wX6_findFirstChances {Z : mm_Z} {d n N : Nat} (hd : 4 ≤ d) (hn : n + 1 < 1000000) {v0 : Nat} {v1 : Int32} {c : mm_C} (hs : (fX6_findFirstChances N v0 v1 c).isSome = true) : mC Z qX6_findFirstChances d 1 6 [.ref v0, .int v1] (n, c) (mP 0 ovU n (fX6_findFirstChances N v0 v1 c)) := by
  refine mC_of gX6_findFirstChances (by decide +kernel) (Nat.le_of_ble_eq_true rfl) fun X C hRm => ?_
  have hf := hO_mP 0 ovU n hs
  have hk : 0 + 1 ≤ 1 := Nat.le_of_ble_eq_true rfl
  have hw : 0 + 6 ≤ 6 := Nat.le_of_ble_eq_true rfl
  show mG _ _ _ _ _ _ _ _ (0, [(0, .ref v0), (1, .int v1)], [], (n, c))
  exact wX6_findFirstChances_0 C hRm hd hn hk hw hf
def bX6_prepares_60 (N : Nat)  (k60 : Nat → Nat → Int32 → mm_C → mR Unit) (v0 : Nat) (v1 : Nat) (v4 : Int32) (c : mm_C) : mR Unit :=
  Option.bind (gI c v1 3 3) fun x1 => if x1 ≤ v4 then (some (.inl (), c)) else (cV 6 v0 c (fX6_findFirstChances N v0 v4 c) fun (_ : Unit) c2 => k60 v0 v1 (v4 + 1) c2)
set_option maxRecDepth 100000 in
theorem wX6_prepares_60 {Z : mm_Z} {X : mm_T} {k w mc ms d n N : Nat} {Q : mm_O → mm_H → Prop} (C : mm_Ok Z qX6_prepares X) (hRm : mt_R X = mm_rm d mc ms) (hd : 5 ≤ d) (hn : n + 1 < 1000000) (hk : k + 1 ≤ mc) (hw : w + 6 ≤ ms) {k60 : Nat → Nat → Int32 → mm_C → mR Unit} (hk60 : ∀ (v0 : Nat) (v1 : Nat) (v4 : Int32) (c : mm_C), hO 0 ovU n (k60 v0 v1 v4 c) Q → mG Z qX6_prepares X k w mc ms Q (60, [(0, .ref v0), (1, .ref v1), (4, .int v4)], [], (n, c))) {v0 : Nat} {v1 : Nat} {v4 : Int32} {c : mm_C} (hf : hO 0 ovU n (bX6_prepares_60 N  k60 v0 v1 v4 c) Q) : mG Z qX6_prepares X k w mc ms Q (60, [(0, .ref v0), (1, .ref v1), (4, .int v4)], [], (n, c)) := by
  unfold bX6_prepares_60 at hf
  refine mg_iload C rfl rfl ?_
  refine mg_aload_n C rfl rfl ?_
  refine mh_gI C rfl rfl rfl (by decide) hf (fun x1 hf => ?_)
  refine mh_icmp_ge C rfl hf (fun e_66 hf => ?_) (fun e_66 hf => ?_)
  · exact mh_return C rfl (by omega) (by omega) rfl hf
  · refine mg_aload_n C rfl rfl ?_
    refine mg_iload C rfl rfl ?_
    refine mh_cVU (M' := qX6_findFirstChances) C rfl rfl aX6_findFirstChances iX6_findFirstChances sX6_findFirstChances hRm (by omega) (by decide) (by omega) (by omega) rfl rfl rfl (Nat.le_of_ble_eq_true rfl) rfl hf (fun hs => wX6_findFirstChances (by omega) (by omega) hs) (fun c2 hf => ?_)
    refine mg_iinc (lv' := [(0, .ref v0), (1, .ref v1), (4, .int (v4 + 1))]) C rfl (Nat.le_of_ble_eq_true rfl) rfl (show _ + Int32.ofInt 1 = _ + 1 by congr 1) rfl ?_
    refine mg_goto C rfl ?_
    exact hk60 _ _ _ _ hf
def lX6_prepares_60 (N : Nat)  : Nat → Nat → Nat → Int32 → mm_C → mR Unit
  | 0, _, _, _, _ => none
  | m + 1, v0, v1, v4, c => bX6_prepares_60 N  (lX6_prepares_60 N  m) v0 v1 v4 c
theorem WX6_prepares_60 {Z : mm_Z} {X : mm_T} {k w mc ms d n N : Nat} {Q : mm_O → mm_H → Prop} (C : mm_Ok Z qX6_prepares X) (hRm : mt_R X = mm_rm d mc ms) (hd : 5 ≤ d) (hn : n + 1 < 1000000) (hk : k + 1 ≤ mc) (hw : w + 6 ≤ ms) : ∀ (m : Nat) {v0 : Nat} {v1 : Nat} {v4 : Int32} {c : mm_C} (hf : hO 0 ovU n (lX6_prepares_60 N  m v0 v1 v4 c) Q), mG Z qX6_prepares X k w mc ms Q (60, [(0, .ref v0), (1, .ref v1), (4, .int v4)], [], (n, c)) := by
  intro m
  induction m with
  | zero => intro v0 v1 v4 c hf; exact absurd hf hO_none
  | succ m ih => intro v0 v1 v4 c hf; exact wX6_prepares_60 C hRm hd hn hk hw (fun v0 v1 v4 c hf => ih hf) hf
def bX6_prepares_0 (N : Nat)  (v0 : Nat) (v1 : Nat) (v2 : Nat) (v3 : Int32) (c : mm_C) : mR Unit :=
  Option.bind (pR c v0 6 6 v1) fun c1 => Option.bind (pR c1 v0 6 7 v2) fun c2 => Option.bind (pI c2 v0 6 8 (mxI (0 : Int32) (mnI v3 (480 : Int32)))) fun c3 => Option.bind (gI c3 v1 3 3) fun x4 => Option.bind (gI c3 v2 9 2) fun x5 => Option.bind (pI c3 v0 6 0 ((((1 : Int32) <<< (x4 &&& 31)) - (1 : Int32)) &&& (x5 ^^^ (-1 : Int32)))) fun c6 => Option.bind (gR c6 v0 6 5) fun x7 => Option.bind (gI c6 v0 6 8) fun x8 => cV 1 x7 c6 (fX1_looks N x7 v1 v2 x8 c6) fun (_ : Unit) c9 => lX6_prepares_60 N  N v0 v1 (0 : Int32) c9
set_option maxRecDepth 100000 in
theorem wX6_prepares_0 {Z : mm_Z} {X : mm_T} {k w mc ms d n N : Nat} {Q : mm_O → mm_H → Prop} (C : mm_Ok Z qX6_prepares X) (hRm : mt_R X = mm_rm d mc ms) (hd : 5 ≤ d) (hn : n + 1 < 1000000) (hk : k + 1 ≤ mc) (hw : w + 6 ≤ ms) {v0 : Nat} {v1 : Nat} {v2 : Nat} {v3 : Int32} {c : mm_C} (hf : hO 0 ovU n (bX6_prepares_0 N  v0 v1 v2 v3 c) Q) : mG Z qX6_prepares X k w mc ms Q (0, [(0, .ref v0), (1, .ref v1), (2, .ref v2), (3, .int v3)], [], (n, c)) := by
  unfold bX6_prepares_0 at hf
  refine mg_aload_n C rfl rfl ?_
  refine mg_aload_n C rfl rfl ?_
  refine mh_pR C rfl rfl rfl (by decide) rfl rfl rfl hf (fun c1 hf => ?_)
  refine mg_aload_n C rfl rfl ?_
  refine mg_aload_n C rfl rfl ?_
  refine mh_pR C rfl rfl rfl (by decide) rfl rfl rfl hf (fun c2 hf => ?_)
  refine mg_aload_n C rfl rfl ?_
  refine mg_iconst (v := 0) C rfl (by decide) ?_
  refine mg_iload_n C rfl rfl ?_
  refine mg_sipush (v := 480) C rfl (by decide) ?_
  refine mh_mnI C rfl rfl hRm (by omega) (Nat.le_of_ble_eq_true rfl) ?_
  refine mh_mxI C rfl rfl hRm (by omega) (Nat.le_of_ble_eq_true rfl) ?_
  refine mh_pI C rfl rfl rfl (by decide) rfl rfl rfl hf (fun c3 hf => ?_)
  refine mg_aload_n C rfl rfl ?_
  refine mg_iconst (v := 1) C rfl (by decide) ?_
  refine mg_aload_n C rfl rfl ?_
  refine mh_gI C rfl rfl rfl (by decide) hf (fun x4 hf => ?_)
  refine mg_ishl C rfl ?_
  refine mg_iconst (v := 1) C rfl (by decide) ?_
  refine mg_isub C rfl ?_
  refine mg_aload_n C rfl rfl ?_
  refine mh_gI C rfl rfl rfl (by decide) hf (fun x5 hf => ?_)
  refine mg_iconst (v := (-1)) C rfl (by decide) ?_
  refine mg_ixor C rfl ?_
  refine mg_iand C rfl ?_
  refine mh_pI C rfl rfl rfl (by decide) rfl rfl rfl hf (fun c6 hf => ?_)
  refine mg_aload_n C rfl rfl ?_
  refine mh_gR C rfl rfl rfl (by decide) hf (fun x7 hf => ?_)
  refine mg_aload_n C rfl rfl ?_
  refine mg_aload_n C rfl rfl ?_
  refine mg_aload_n C rfl rfl ?_
  refine mh_gI C rfl rfl rfl (by decide) hf (fun x8 hf => ?_)
  refine mh_cVU (M' := qX1_looks) C rfl rfl aX1_looks iX1_looks sX1_looks hRm (by omega) (by decide) (by omega) (by omega) rfl rfl rfl (Nat.le_of_ble_eq_true rfl) rfl hf (fun hs => wX1_looks (by omega) (by omega) hs) (fun c9 hf => ?_)
  refine mg_iconst (v := 0) C rfl (by decide) ?_
  refine mg_istore (lv' := [(0, .ref v0), (1, .ref v1), (2, .ref v2), (3, .int v3), (4, .int (0 : Int32))]) C rfl (Nat.le_of_ble_eq_true rfl) rfl ?_
  refine mg_sub (lv' := [(0, .ref v0), (1, .ref v1), (4, .int (0 : Int32))]) (by simp) ?_
  exact WX6_prepares_60 C hRm hd hn hk hw N hf
def fX6_prepares (N : Nat) (v0 : Nat) (v1 : Nat) (v2 : Nat) (v3 : Int32) (c : mm_C) : mR Unit := bX6_prepares_0 N v0 v1 v2 v3 c
set_option maxRecDepth 100000 in
theorem wX6_prepares {Z : mm_Z} {d n N : Nat} (hd : 5 ≤ d) (hn : n + 1 < 1000000) {v0 : Nat} {v1 : Nat} {v2 : Nat} {v3 : Int32} {c : mm_C} (hs : (fX6_prepares N v0 v1 v2 v3 c).isSome = true) : mC Z qX6_prepares d 1 6 [.ref v0, .ref v1, .ref v2, .int v3] (n, c) (mP 0 ovU n (fX6_prepares N v0 v1 v2 v3 c)) := by
  refine mC_of gX6_prepares (by decide +kernel) (Nat.le_of_ble_eq_true rfl) fun X C hRm => ?_
  have hf := hO_mP 0 ovU n hs
  have hk : 0 + 1 ≤ 1 := Nat.le_of_ble_eq_true rfl
  have hw : 0 + 6 ≤ 6 := Nat.le_of_ble_eq_true rfl
  show mG _ _ _ _ _ _ _ _ (0, [(0, .ref v0), (1, .ref v1), (2, .ref v2), (3, .int v3)], [], (n, c))
  exact wX6_prepares_0 C hRm hd hn hk hw hf
def bX6_findLastChances_61 (N : Nat)  (v0 : Nat) (v2 : Nat) (v4 : Int32) (c : mm_C) : mR Unit :=
  Option.bind (gI c v0 6 8) fun x1 => Option.bind (tI c v2 x1 v4) fun c2 => some (.inl (), c2)
set_option maxRecDepth 100000 in
theorem wX6_findLastChances_61 {Z : mm_Z} {X : mm_T} {k w mc ms d n N : Nat} {Q : mm_O → mm_H → Prop} (C : mm_Ok Z qX6_findLastChances X) (hRm : mt_R X = mm_rm d mc ms) (hd : 4 ≤ d) (hn : n + 1 < 1000000) (hk : k + 1 ≤ mc) (hw : w + 6 ≤ ms) {v0 : Nat} {v2 : Nat} {v4 : Int32} {c : mm_C} (hf : hO 0 ovU n (bX6_findLastChances_61 N  v0 v2 v4 c) Q) : mG Z qX6_findLastChances X k w mc ms Q (61, [(0, .ref v0), (2, .ref v2), (4, .int v4)], [], (n, c)) := by
  unfold bX6_findLastChances_61 at hf
  refine mg_aload_n C rfl rfl ?_
  refine mg_aload_n C rfl rfl ?_
  refine mh_gI C rfl rfl rfl (by decide) hf (fun x1 hf => ?_)
  refine mg_iload C rfl rfl ?_
  refine mh_tI C rfl hf (fun c2 hf => ?_)
  exact mh_return C rfl (by omega) (by omega) rfl hf
def bX6_findLastChances_49 (N : Nat)  (k23 : Nat → Nat → Nat → Int32 → Int32 → mm_C → mR Unit) (v0 : Nat) (v2 : Nat) (v3 : Nat) (v4 : Int32) (v5 : Int32) (c : mm_C) : mR Unit :=
  Option.bind (tI c v2 v5 v4) fun c1 => k23 v0 v2 v3 v4 (v5 + 1) c1
set_option maxRecDepth 100000 in
theorem wX6_findLastChances_49 {Z : mm_Z} {X : mm_T} {k w mc ms d n N : Nat} {Q : mm_O → mm_H → Prop} (C : mm_Ok Z qX6_findLastChances X) (hRm : mt_R X = mm_rm d mc ms) (hd : 4 ≤ d) (hn : n + 1 < 1000000) (hk : k + 1 ≤ mc) (hw : w + 6 ≤ ms) {k23 : Nat → Nat → Nat → Int32 → Int32 → mm_C → mR Unit} (hk23 : ∀ (v0 : Nat) (v2 : Nat) (v3 : Nat) (v4 : Int32) (v5 : Int32) (c : mm_C), hO 0 ovU n (k23 v0 v2 v3 v4 v5 c) Q → mG Z qX6_findLastChances X k w mc ms Q (23, [(0, .ref v0), (2, .ref v2), (3, .ref v3), (4, .int v4), (5, .int v5)], [], (n, c))) {v0 : Nat} {v2 : Nat} {v3 : Nat} {v4 : Int32} {v5 : Int32} {c : mm_C} (hf : hO 0 ovU n (bX6_findLastChances_49 N  k23 v0 v2 v3 v4 v5 c) Q) : mG Z qX6_findLastChances X k w mc ms Q (49, [(0, .ref v0), (2, .ref v2), (3, .ref v3), (4, .int v4), (5, .int v5)], [], (n, c)) := by
  unfold bX6_findLastChances_49 at hf
  refine mg_aload_n C rfl rfl ?_
  refine mg_iload C rfl rfl ?_
  refine mg_iload C rfl rfl ?_
  refine mh_tI C rfl hf (fun c1 hf => ?_)
  refine mg_iinc (lv' := [(0, .ref v0), (2, .ref v2), (3, .ref v3), (4, .int v4), (5, .int (v5 + 1))]) C rfl (Nat.le_of_ble_eq_true rfl) rfl (show _ + Int32.ofInt 1 = _ + 1 by congr 1) rfl ?_
  refine mg_goto C rfl ?_
  exact hk23 _ _ _ _ _ _ hf
def bX6_findLastChances_23 (N : Nat)  (k23 : Nat → Nat → Nat → Int32 → Int32 → mm_C → mR Unit) (v0 : Nat) (v2 : Nat) (v3 : Nat) (v4 : Int32) (v5 : Int32) (c : mm_C) : mR Unit :=
  Option.bind (gI c v0 6 8) fun x1 => if x1 ≤ v5 then (bX6_findLastChances_61 N  v0 v2 v4 c) else (Option.bind (gR c v0 6 5) fun x2 => cV 1 x2 c (fX1_wouldBeHad N x2 v3 v5 c) fun r3 c4 => if r3 = 0 then (bX6_findLastChances_49 N  k23 v0 v2 v3 v4 v5 c4) else (bX6_findLastChances_49 N  k23 v0 v2 v3 v5 v5 c4))
set_option maxRecDepth 100000 in
theorem wX6_findLastChances_23 {Z : mm_Z} {X : mm_T} {k w mc ms d n N : Nat} {Q : mm_O → mm_H → Prop} (C : mm_Ok Z qX6_findLastChances X) (hRm : mt_R X = mm_rm d mc ms) (hd : 4 ≤ d) (hn : n + 1 < 1000000) (hk : k + 1 ≤ mc) (hw : w + 6 ≤ ms) {k23 : Nat → Nat → Nat → Int32 → Int32 → mm_C → mR Unit} (hk23 : ∀ (v0 : Nat) (v2 : Nat) (v3 : Nat) (v4 : Int32) (v5 : Int32) (c : mm_C), hO 0 ovU n (k23 v0 v2 v3 v4 v5 c) Q → mG Z qX6_findLastChances X k w mc ms Q (23, [(0, .ref v0), (2, .ref v2), (3, .ref v3), (4, .int v4), (5, .int v5)], [], (n, c))) {v0 : Nat} {v2 : Nat} {v3 : Nat} {v4 : Int32} {v5 : Int32} {c : mm_C} (hf : hO 0 ovU n (bX6_findLastChances_23 N  k23 v0 v2 v3 v4 v5 c) Q) : mG Z qX6_findLastChances X k w mc ms Q (23, [(0, .ref v0), (2, .ref v2), (3, .ref v3), (4, .int v4), (5, .int v5)], [], (n, c)) := by
  unfold bX6_findLastChances_23 at hf
  refine mg_iload C rfl rfl ?_
  refine mg_aload_n C rfl rfl ?_
  refine mh_gI C rfl rfl rfl (by decide) hf (fun x1 hf => ?_)
  refine mh_icmp_ge C rfl hf (fun e_29 hf => ?_) (fun e_29 hf => ?_)
  · refine mg_sub (lv' := [(0, .ref v0), (2, .ref v2), (4, .int v4)]) (by simp) ?_
    exact wX6_findLastChances_61 C hRm hd hn hk hw hf
  · refine mg_aload_n C rfl rfl ?_
    refine mh_gR C rfl rfl rfl (by decide) hf (fun x2 hf => ?_)
    refine mg_aload_n C rfl rfl ?_
    refine mg_iload C rfl rfl ?_
    refine mh_cVI (M' := qX1_wouldBeHad) C rfl rfl aX1_wouldBeHad iX1_wouldBeHad sX1_wouldBeHad hRm (by omega) (by decide) (by omega) (by omega) rfl rfl rfl (Nat.le_of_ble_eq_true rfl) rfl hf (fun hs => wX1_wouldBeHad (by omega) (by omega) hs) (fun r3 c4 hf => ?_)
    refine mh_if_eq C rfl hf (fun e_42 hf => ?_) (fun e_42 hf => ?_)
    · exact wX6_findLastChances_49 C hRm hd hn hk hw hk23 hf
    · refine mg_iload C rfl rfl ?_
      refine mg_istore (lv' := [(0, .ref v0), (2, .ref v2), (3, .ref v3), (4, .int v5), (5, .int v5)]) C rfl (Nat.le_of_ble_eq_true rfl) rfl ?_
      exact wX6_findLastChances_49 C hRm hd hn hk hw hk23 hf
def lX6_findLastChances_23 (N : Nat)  : Nat → Nat → Nat → Nat → Int32 → Int32 → mm_C → mR Unit
  | 0, _, _, _, _, _, _ => none
  | m + 1, v0, v2, v3, v4, v5, c => bX6_findLastChances_23 N  (lX6_findLastChances_23 N  m) v0 v2 v3 v4 v5 c
theorem WX6_findLastChances_23 {Z : mm_Z} {X : mm_T} {k w mc ms d n N : Nat} {Q : mm_O → mm_H → Prop} (C : mm_Ok Z qX6_findLastChances X) (hRm : mt_R X = mm_rm d mc ms) (hd : 4 ≤ d) (hn : n + 1 < 1000000) (hk : k + 1 ≤ mc) (hw : w + 6 ≤ ms) : ∀ (m : Nat) {v0 : Nat} {v2 : Nat} {v3 : Nat} {v4 : Int32} {v5 : Int32} {c : mm_C} (hf : hO 0 ovU n (lX6_findLastChances_23 N  m v0 v2 v3 v4 v5 c) Q), mG Z qX6_findLastChances X k w mc ms Q (23, [(0, .ref v0), (2, .ref v2), (3, .ref v3), (4, .int v4), (5, .int v5)], [], (n, c)) := by
  intro m
  induction m with
  | zero => intro v0 v2 v3 v4 v5 c hf; exact absurd hf hO_none
  | succ m ih => intro v0 v2 v3 v4 v5 c hf; exact wX6_findLastChances_23 C hRm hd hn hk hw (fun v0 v2 v3 v4 v5 c hf => ih hf) hf
def bX6_findLastChances_0 (N : Nat)  (v0 : Nat) (v1 : Int32) (c : mm_C) : mR Unit :=
  Option.bind (gR c v0 6 10) fun x1 => Option.bind (aR (.array .int) c x1 v1) fun x2 => Option.bind (gR c v0 6 6) fun x3 => Option.bind (gR c x3 3 6) fun x4 => Option.bind (aR (.object "CloudTakes$Shot") c x4 v1) fun x5 => lX6_findLastChances_23 N  N v0 x2 x5 (-1 : Int32) (0 : Int32) c
set_option maxRecDepth 100000 in
theorem wX6_findLastChances_0 {Z : mm_Z} {X : mm_T} {k w mc ms d n N : Nat} {Q : mm_O → mm_H → Prop} (C : mm_Ok Z qX6_findLastChances X) (hRm : mt_R X = mm_rm d mc ms) (hd : 4 ≤ d) (hn : n + 1 < 1000000) (hk : k + 1 ≤ mc) (hw : w + 6 ≤ ms) {v0 : Nat} {v1 : Int32} {c : mm_C} (hf : hO 0 ovU n (bX6_findLastChances_0 N  v0 v1 c) Q) : mG Z qX6_findLastChances X k w mc ms Q (0, [(0, .ref v0), (1, .int v1)], [], (n, c)) := by
  unfold bX6_findLastChances_0 at hf
  refine mg_aload_n C rfl rfl ?_
  refine mh_gR C rfl rfl rfl (by decide) hf (fun x1 hf => ?_)
  refine mg_iload_n C rfl rfl ?_
  refine mh_aR (ti := 7) C rfl rfl rfl hf (fun x2 hf => ?_)
  refine mg_astore_n (lv' := [(0, .ref v0), (1, .int v1), (2, .ref x2)]) C rfl (Nat.le_of_ble_eq_true rfl) rfl ?_
  refine mg_aload_n C rfl rfl ?_
  refine mh_gR C rfl rfl rfl (by decide) hf (fun x3 hf => ?_)
  refine mh_gR C rfl rfl rfl (by decide) hf (fun x4 hf => ?_)
  refine mg_iload_n C rfl rfl ?_
  refine mh_aR (ti := 4) C rfl rfl rfl hf (fun x5 hf => ?_)
  refine mg_astore_n (lv' := [(0, .ref v0), (1, .int v1), (2, .ref x2), (3, .ref x5)]) C rfl (Nat.le_of_ble_eq_true rfl) rfl ?_
  refine mg_iconst (v := (-1)) C rfl (by decide) ?_
  refine mg_istore (lv' := [(0, .ref v0), (1, .int v1), (2, .ref x2), (3, .ref x5), (4, .int (-1 : Int32))]) C rfl (Nat.le_of_ble_eq_true rfl) rfl ?_
  refine mg_iconst (v := 0) C rfl (by decide) ?_
  refine mg_istore (lv' := [(0, .ref v0), (1, .int v1), (2, .ref x2), (3, .ref x5), (4, .int (-1 : Int32)), (5, .int (0 : Int32))]) C rfl (Nat.le_of_ble_eq_true rfl) rfl ?_
  refine mg_sub (lv' := [(0, .ref v0), (2, .ref x2), (3, .ref x5), (4, .int (-1 : Int32)), (5, .int (0 : Int32))]) (by simp) ?_
  exact WX6_findLastChances_23 C hRm hd hn hk hw N hf
def fX6_findLastChances (N : Nat) (v0 : Nat) (v1 : Int32) (c : mm_C) : mR Unit := bX6_findLastChances_0 N v0 v1 c
set_option maxRecDepth 100000 in
theorem wX6_findLastChances {Z : mm_Z} {d n N : Nat} (hd : 4 ≤ d) (hn : n + 1 < 1000000) {v0 : Nat} {v1 : Int32} {c : mm_C} (hs : (fX6_findLastChances N v0 v1 c).isSome = true) : mC Z qX6_findLastChances d 1 6 [.ref v0, .int v1] (n, c) (mP 0 ovU n (fX6_findLastChances N v0 v1 c)) := by
  refine mC_of gX6_findLastChances (by decide +kernel) (Nat.le_of_ble_eq_true rfl) fun X C hRm => ?_
  have hf := hO_mP 0 ovU n hs
  have hk : 0 + 1 ≤ 1 := Nat.le_of_ble_eq_true rfl
  have hw : 0 + 6 ≤ 6 := Nat.le_of_ble_eq_true rfl
  show mG _ _ _ _ _ _ _ _ (0, [(0, .ref v0), (1, .int v1)], [], (n, c))
  exact wX6_findLastChances_0 C hRm hd hn hk hw hf
def bX6_isFree_27 (N : Nat)   (c : mm_C) : mR Int32 :=
  rZ (1 : Int32) c
set_option maxRecDepth 100000 in
theorem wX6_isFree_27 {Z : mm_Z} {X : mm_T} {k w mc ms d n N : Nat} {Q : mm_O → mm_H → Prop} (C : mm_Ok Z qX6_isFree X) (hRm : mt_R X = mm_rm d mc ms) (hd : 1 ≤ d) (hn : n + 1 < 1000000) (hk : k + 1 ≤ mc) (hw : w + 6 ≤ ms)  {c : mm_C} (hf : hO 0 ovI n (bX6_isFree_27 N   c) Q) : mG Z qX6_isFree X k w mc ms Q (27, [], [], (n, c)) := by
  unfold bX6_isFree_27 at hf
  refine mg_iconst (v := 1) C rfl (by decide) ?_
  refine mg_goto C rfl ?_
  exact mh_zreturn C rfl (by omega) (by omega) rfl hf
def bX6_isFree_0 (N : Nat)  (v0 : Nat) (v1 : Int32) (v2 : Int32) (c : mm_C) : mR Int32 :=
  Option.bind (gR c v0 6 6) fun x1 => Option.bind (gR c x1 3 6) fun x2 => Option.bind (aR (.object "CloudTakes$Shot") c x2 v1) fun x3 => Option.bind (gI c x3 7 5) fun x4 => if x4 = (-1 : Int32) then (bX6_isFree_27 N  c) else (if ¬ ((v2 >>> (x4 &&& 31)) &&& (1 : Int32)) = (1 : Int32) then (rZ (0 : Int32) c) else (bX6_isFree_27 N  c))
set_option maxRecDepth 100000 in
theorem wX6_isFree_0 {Z : mm_Z} {X : mm_T} {k w mc ms d n N : Nat} {Q : mm_O → mm_H → Prop} (C : mm_Ok Z qX6_isFree X) (hRm : mt_R X = mm_rm d mc ms) (hd : 1 ≤ d) (hn : n + 1 < 1000000) (hk : k + 1 ≤ mc) (hw : w + 6 ≤ ms) {v0 : Nat} {v1 : Int32} {v2 : Int32} {c : mm_C} (hf : hO 0 ovI n (bX6_isFree_0 N  v0 v1 v2 c) Q) : mG Z qX6_isFree X k w mc ms Q (0, [(0, .ref v0), (1, .int v1), (2, .int v2)], [], (n, c)) := by
  unfold bX6_isFree_0 at hf
  refine mg_aload_n C rfl rfl ?_
  refine mh_gR C rfl rfl rfl (by decide) hf (fun x1 hf => ?_)
  refine mh_gR C rfl rfl rfl (by decide) hf (fun x2 hf => ?_)
  refine mg_iload_n C rfl rfl ?_
  refine mh_aR (ti := 4) C rfl rfl rfl hf (fun x3 hf => ?_)
  refine mh_gI C rfl rfl rfl (by decide) hf (fun x4 hf => ?_)
  refine mg_istore_n (lv' := [(0, .ref v0), (1, .int v1), (2, .int v2), (3, .int x4)]) C rfl (Nat.le_of_ble_eq_true rfl) rfl ?_
  refine mg_iload_n C rfl rfl ?_
  refine mg_iconst (v := (-1)) C rfl (by decide) ?_
  refine mh_icmp_eq C rfl hf (fun e_15 hf => ?_) (fun e_15 hf => ?_)
  · refine mg_sub (lv' := []) (by simp) ?_
    exact wX6_isFree_27 C hRm hd hn hk hw hf
  · refine mg_iload_n C rfl rfl ?_
    refine mg_iload_n C rfl rfl ?_
    refine mg_ishr C rfl ?_
    refine mg_iconst (v := 1) C rfl (by decide) ?_
    refine mg_iand C rfl ?_
    refine mg_iconst (v := 1) C rfl (by decide) ?_
    refine mh_icmp_ne C rfl hf (fun e_24 hf => ?_) (fun e_24 hf => ?_)
    · refine mg_iconst (v := 0) C rfl (by decide) ?_
      exact mh_zreturn C rfl (by omega) (by omega) rfl hf
    · refine mg_sub (lv' := []) (by simp) ?_
      exact wX6_isFree_27 C hRm hd hn hk hw hf
def fX6_isFree (N : Nat) (v0 : Nat) (v1 : Int32) (v2 : Int32) (c : mm_C) : mR Int32 := bX6_isFree_0 N v0 v1 v2 c
set_option maxRecDepth 100000 in
theorem wX6_isFree {Z : mm_Z} {d n N : Nat} (hd : 1 ≤ d) (hn : n + 1 < 1000000) {v0 : Nat} {v1 : Int32} {v2 : Int32} {c : mm_C} (hs : (fX6_isFree N v0 v1 v2 c).isSome = true) : mC Z qX6_isFree d 1 6 [.ref v0, .int v1, .int v2] (n, c) (mP 0 ovI n (fX6_isFree N v0 v1 v2 c)) := by
  refine mC_of gX6_isFree (by decide +kernel) (Nat.le_of_ble_eq_true rfl) fun X C hRm => ?_
  have hf := hO_mP 0 ovI n hs
  have hk : 0 + 1 ≤ 1 := Nat.le_of_ble_eq_true rfl
  have hw : 0 + 6 ≤ 6 := Nat.le_of_ble_eq_true rfl
  show mG _ _ _ _ _ _ _ _ (0, [(0, .ref v0), (1, .int v1), (2, .int v2)], [], (n, c))
  exact wX6_isFree_0 C hRm hd hn hk hw hf
def bX6_meetPlaces_0 (N : Nat)  (v0 : Nat) (v1 : Int32) (c : mm_C) : mR Unit :=
  Option.bind (gR c v0 6 11) fun x1 => Option.bind (aI c x1 ((v1 * (2 : Int32)) + (0 : Int32))) fun x2 => Option.bind (gR c v0 6 11) fun x3 => Option.bind (aI c x3 ((v1 * (2 : Int32)) + (1 : Int32))) fun x4 => Option.bind (gR c v0 6 11) fun x5 => Option.bind (gR c v0 6 6) fun x6 => Option.bind (gI c x6 3 1) fun x7 => Option.bind (tI c x5 ((v1 * (2 : Int32)) + (0 : Int32)) (mnI x2 (x4 + x7))) fun c8 => Option.bind (gR c8 v0 6 11) fun x9 => Option.bind (gR c8 v0 6 6) fun x10 => Option.bind (gI c8 x10 3 1) fun x11 => Option.bind (tI c8 x9 ((v1 * (2 : Int32)) + (1 : Int32)) (mnI x4 (x2 + x11))) fun c12 => some (.inl (), c12)
set_option maxRecDepth 100000 in
theorem wX6_meetPlaces_0 {Z : mm_Z} {X : mm_T} {k w mc ms d n N : Nat} {Q : mm_O → mm_H → Prop} (C : mm_Ok Z qX6_meetPlaces X) (hRm : mt_R X = mm_rm d mc ms) (hd : 1 ≤ d) (hn : n + 1 < 1000000) (hk : k + 1 ≤ mc) (hw : w + 6 ≤ ms) {v0 : Nat} {v1 : Int32} {c : mm_C} (hf : hO 0 ovU n (bX6_meetPlaces_0 N  v0 v1 c) Q) : mG Z qX6_meetPlaces X k w mc ms Q (0, [(0, .ref v0), (1, .int v1)], [], (n, c)) := by
  unfold bX6_meetPlaces_0 at hf
  refine mg_aload_n C rfl rfl ?_
  refine mh_gR C rfl rfl rfl (by decide) hf (fun x1 hf => ?_)
  refine mg_iload_n C rfl rfl ?_
  refine mg_iconst (v := 2) C rfl (by decide) ?_
  refine mg_imul C rfl ?_
  refine mg_iconst (v := 0) C rfl (by decide) ?_
  refine mg_iadd C rfl ?_
  refine mh_aI C rfl hf (fun x2 hf => ?_)
  refine mg_istore_n (lv' := [(0, .ref v0), (1, .int v1), (2, .int x2)]) C rfl (Nat.le_of_ble_eq_true rfl) rfl ?_
  refine mg_aload_n C rfl rfl ?_
  refine mh_gR C rfl rfl rfl (by decide) hf (fun x3 hf => ?_)
  refine mg_iload_n C rfl rfl ?_
  refine mg_iconst (v := 2) C rfl (by decide) ?_
  refine mg_imul C rfl ?_
  refine mg_iconst (v := 1) C rfl (by decide) ?_
  refine mg_iadd C rfl ?_
  refine mh_aI C rfl hf (fun x4 hf => ?_)
  refine mg_istore_n (lv' := [(0, .ref v0), (1, .int v1), (2, .int x2), (3, .int x4)]) C rfl (Nat.le_of_ble_eq_true rfl) rfl ?_
  refine mg_aload_n C rfl rfl ?_
  refine mh_gR C rfl rfl rfl (by decide) hf (fun x5 hf => ?_)
  refine mg_iload_n C rfl rfl ?_
  refine mg_iconst (v := 2) C rfl (by decide) ?_
  refine mg_imul C rfl ?_
  refine mg_iconst (v := 0) C rfl (by decide) ?_
  refine mg_iadd C rfl ?_
  refine mg_iload_n C rfl rfl ?_
  refine mg_iload_n C rfl rfl ?_
  refine mg_aload_n C rfl rfl ?_
  refine mh_gR C rfl rfl rfl (by decide) hf (fun x6 hf => ?_)
  refine mh_gI C rfl rfl rfl (by decide) hf (fun x7 hf => ?_)
  refine mg_iadd C rfl ?_
  refine mh_mnI C rfl rfl hRm (by omega) (Nat.le_of_ble_eq_true rfl) ?_
  refine mh_tI C rfl hf (fun c8 hf => ?_)
  refine mg_aload_n C rfl rfl ?_
  refine mh_gR C rfl rfl rfl (by decide) hf (fun x9 hf => ?_)
  refine mg_iload_n C rfl rfl ?_
  refine mg_iconst (v := 2) C rfl (by decide) ?_
  refine mg_imul C rfl ?_
  refine mg_iconst (v := 1) C rfl (by decide) ?_
  refine mg_iadd C rfl ?_
  refine mg_iload_n C rfl rfl ?_
  refine mg_iload_n C rfl rfl ?_
  refine mg_aload_n C rfl rfl ?_
  refine mh_gR C rfl rfl rfl (by decide) hf (fun x10 hf => ?_)
  refine mh_gI C rfl rfl rfl (by decide) hf (fun x11 hf => ?_)
  refine mg_iadd C rfl ?_
  refine mh_mnI C rfl rfl hRm (by omega) (Nat.le_of_ble_eq_true rfl) ?_
  refine mh_tI C rfl hf (fun c12 hf => ?_)
  exact mh_return C rfl (by omega) (by omega) rfl hf
def fX6_meetPlaces (N : Nat) (v0 : Nat) (v1 : Int32) (c : mm_C) : mR Unit := bX6_meetPlaces_0 N v0 v1 c
set_option maxRecDepth 100000 in
theorem wX6_meetPlaces {Z : mm_Z} {d n N : Nat} (hd : 1 ≤ d) (hn : n + 1 < 1000000) {v0 : Nat} {v1 : Int32} {c : mm_C} (hs : (fX6_meetPlaces N v0 v1 c).isSome = true) : mC Z qX6_meetPlaces d 1 6 [.ref v0, .int v1] (n, c) (mP 0 ovU n (fX6_meetPlaces N v0 v1 c)) := by
  refine mC_of gX6_meetPlaces (by decide +kernel) (Nat.le_of_ble_eq_true rfl) fun X C hRm => ?_
  have hf := hO_mP 0 ovU n hs
  have hk : 0 + 1 ≤ 1 := Nat.le_of_ble_eq_true rfl
  have hw : 0 + 6 ≤ 6 := Nat.le_of_ble_eq_true rfl
  show mG _ _ _ _ _ _ _ _ (0, [(0, .ref v0), (1, .int v1)], [], (n, c))
  exact wX6_meetPlaces_0 C hRm hd hn hk hw hf
def bX6_endFrom_0 (N : Nat)  (v0 : Nat) (v1 : Int32) (v2 : Int32) (c : mm_C) : mR Int32 :=
  Option.bind (gI c v0 6 8) fun x1 => if v2 ≤ x1 then (Option.bind (gR c v0 6 9) fun x2 => Option.bind (aR (.array .int) c x2 v1) fun x3 => Option.bind (aI c x3 v2) fun x4 => if ¬ x4 = (1000000 : Int32) then (Option.bind (gR c v0 6 6) fun x5 => Option.bind (gR c x5 3 6) fun x6 => Option.bind (aR (.object "CloudTakes$Shot") c x6 v1) fun x7 => Option.bind (gI c x7 7 2) fun x8 => some (.inl (x4 + x8), c)) else (some (.inl (1000000 : Int32), c))) else (some (.inl (1000000 : Int32), c))
set_option maxRecDepth 100000 in
theorem wX6_endFrom_0 {Z : mm_Z} {X : mm_T} {k w mc ms d n N : Nat} {Q : mm_O → mm_H → Prop} (C : mm_Ok Z qX6_endFrom X) (hRm : mt_R X = mm_rm d mc ms) (hd : 1 ≤ d) (hn : n + 1 < 1000000) (hk : k + 1 ≤ mc) (hw : w + 6 ≤ ms) {v0 : Nat} {v1 : Int32} {v2 : Int32} {c : mm_C} (hf : hO 0 ovI n (bX6_endFrom_0 N  v0 v1 v2 c) Q) : mG Z qX6_endFrom X k w mc ms Q (0, [(0, .ref v0), (1, .int v1), (2, .int v2)], [], (n, c)) := by
  unfold bX6_endFrom_0 at hf
  refine mg_iload_n C rfl rfl ?_
  refine mg_aload_n C rfl rfl ?_
  refine mh_gI C rfl rfl rfl (by decide) hf (fun x1 hf => ?_)
  refine mh_icmp_le C rfl hf (fun e_5 hf => ?_) (fun e_5 hf => ?_)
  · refine mg_aload_n C rfl rfl ?_
    refine mh_gR C rfl rfl rfl (by decide) hf (fun x2 hf => ?_)
    refine mg_iload_n C rfl rfl ?_
    refine mh_aR (ti := 7) C rfl rfl rfl hf (fun x3 hf => ?_)
    refine mg_iload_n C rfl rfl ?_
    refine mh_aI C rfl hf (fun x4 hf => ?_)
    refine mg_istore_n (lv' := [(0, .ref v0), (1, .int v1), (2, .int v2), (3, .int x4)]) C rfl (Nat.le_of_ble_eq_true rfl) rfl ?_
    refine mg_iload_n C rfl rfl ?_
    refine mg_ldc C rfl rfl ?_
    refine mh_icmp_ne C rfl hf (fun e_23 hf => ?_) (fun e_23 hf => ?_)
    · refine mg_iload_n C rfl rfl ?_
      refine mg_aload_n C rfl rfl ?_
      refine mh_gR C rfl rfl rfl (by decide) hf (fun x5 hf => ?_)
      refine mh_gR C rfl rfl rfl (by decide) hf (fun x6 hf => ?_)
      refine mg_iload_n C rfl rfl ?_
      refine mh_aR (ti := 4) C rfl rfl rfl hf (fun x7 hf => ?_)
      refine mh_gI C rfl rfl rfl (by decide) hf (fun x8 hf => ?_)
      refine mg_iadd C rfl ?_
      exact mh_ireturn C rfl (by omega) (by omega) rfl hf
    · refine mg_ldc C rfl rfl ?_
      refine mg_goto C rfl ?_
      exact mh_ireturn C rfl (by omega) (by omega) rfl hf
  · refine mg_ldc C rfl rfl ?_
    exact mh_ireturn C rfl (by omega) (by omega) rfl hf
def fX6_endFrom (N : Nat) (v0 : Nat) (v1 : Int32) (v2 : Int32) (c : mm_C) : mR Int32 := bX6_endFrom_0 N v0 v1 v2 c
set_option maxRecDepth 100000 in
theorem wX6_endFrom {Z : mm_Z} {d n N : Nat} (hd : 1 ≤ d) (hn : n + 1 < 1000000) {v0 : Nat} {v1 : Int32} {v2 : Int32} {c : mm_C} (hs : (fX6_endFrom N v0 v1 v2 c).isSome = true) : mC Z qX6_endFrom d 1 6 [.ref v0, .int v1, .int v2] (n, c) (mP 0 ovI n (fX6_endFrom N v0 v1 v2 c)) := by
  refine mC_of gX6_endFrom (by decide +kernel) (Nat.le_of_ble_eq_true rfl) fun X C hRm => ?_
  have hf := hO_mP 0 ovI n hs
  have hk : 0 + 1 ≤ 1 := Nat.le_of_ble_eq_true rfl
  have hw : 0 + 6 ≤ 6 := Nat.le_of_ble_eq_true rfl
  show mG _ _ _ _ _ _ _ _ (0, [(0, .ref v0), (1, .int v1), (2, .int v2)], [], (n, c))
  exact wX6_endFrom_0 C hRm hd hn hk hw hf
def bX6_spreadsBy_0 (N : Nat)  (v0 : Nat) (v1 : Int32) (v2 : Int32) (c : mm_C) : mR Unit :=
  Option.bind (gR c v0 6 6) fun x1 => Option.bind (gR c x1 3 6) fun x2 => Option.bind (aR (.object "CloudTakes$Shot") c x2 v1) fun x3 => cV 7 x3 c (fX7_place N x3 c) fun r4 c5 => Option.bind (gR c5 v0 6 11) fun x6 => Option.bind (aI c5 x6 ((v2 * (2 : Int32)) + r4)) fun x7 => cV 6 v0 c5 (fX6_endFrom N v0 v1 x7 c5) fun r8 c9 => Option.bind (gR c9 v0 6 11) fun x10 => Option.bind (gR c9 v0 6 11) fun x11 => Option.bind (aI c9 x11 (((v2 ||| ((1 : Int32) <<< (v1 &&& 31))) * (2 : Int32)) + r4)) fun x12 => Option.bind (tI c9 x10 (((v2 ||| ((1 : Int32) <<< (v1 &&& 31))) * (2 : Int32)) + r4) (mnI x12 r8)) fun c13 => some (.inl (), c13)
set_option maxRecDepth 100000 in
theorem wX6_spreadsBy_0 {Z : mm_Z} {X : mm_T} {k w mc ms d n N : Nat} {Q : mm_O → mm_H → Prop} (C : mm_Ok Z qX6_spreadsBy X) (hRm : mt_R X = mm_rm d mc ms) (hd : 2 ≤ d) (hn : n + 1 < 1000000) (hk : k + 1 ≤ mc) (hw : w + 6 ≤ ms) {v0 : Nat} {v1 : Int32} {v2 : Int32} {c : mm_C} (hf : hO 0 ovU n (bX6_spreadsBy_0 N  v0 v1 v2 c) Q) : mG Z qX6_spreadsBy X k w mc ms Q (0, [(0, .ref v0), (1, .int v1), (2, .int v2)], [], (n, c)) := by
  unfold bX6_spreadsBy_0 at hf
  refine mg_aload_n C rfl rfl ?_
  refine mh_gR C rfl rfl rfl (by decide) hf (fun x1 hf => ?_)
  refine mh_gR C rfl rfl rfl (by decide) hf (fun x2 hf => ?_)
  refine mg_iload_n C rfl rfl ?_
  refine mh_aR (ti := 4) C rfl rfl rfl hf (fun x3 hf => ?_)
  refine mh_cVI (M' := qX7_place) C rfl rfl aX7_place iX7_place sX7_place hRm (by omega) (by decide) (by omega) (by omega) rfl rfl rfl (Nat.le_of_ble_eq_true rfl) rfl hf (fun hs => wX7_place (by omega) (by omega) hs) (fun r4 c5 hf => ?_)
  refine mg_istore_n (lv' := [(0, .ref v0), (1, .int v1), (2, .int v2), (3, .int r4)]) C rfl (Nat.le_of_ble_eq_true rfl) rfl ?_
  refine mg_aload_n C rfl rfl ?_
  refine mg_iload_n C rfl rfl ?_
  refine mg_aload_n C rfl rfl ?_
  refine mh_gR C rfl rfl rfl (by decide) hf (fun x6 hf => ?_)
  refine mg_iload_n C rfl rfl ?_
  refine mg_iconst (v := 2) C rfl (by decide) ?_
  refine mg_imul C rfl ?_
  refine mg_iload_n C rfl rfl ?_
  refine mg_iadd C rfl ?_
  refine mh_aI C rfl hf (fun x7 hf => ?_)
  refine mh_cVI (M' := qX6_endFrom) C rfl rfl aX6_endFrom iX6_endFrom sX6_endFrom hRm (by omega) (by decide) (by omega) (by omega) rfl rfl rfl (Nat.le_of_ble_eq_true rfl) rfl hf (fun hs => wX6_endFrom (by omega) (by omega) hs) (fun r8 c9 hf => ?_)
  refine mg_istore (lv' := [(0, .ref v0), (1, .int v1), (2, .int v2), (3, .int r4), (4, .int r8)]) C rfl (Nat.le_of_ble_eq_true rfl) rfl ?_
  refine mg_iload_n C rfl rfl ?_
  refine mg_iconst (v := 1) C rfl (by decide) ?_
  refine mg_iload_n C rfl rfl ?_
  refine mg_ishl C rfl ?_
  refine mg_ior C rfl ?_
  refine mg_iconst (v := 2) C rfl (by decide) ?_
  refine mg_imul C rfl ?_
  refine mg_iload_n C rfl rfl ?_
  refine mg_iadd C rfl ?_
  refine mg_istore (lv' := [(0, .ref v0), (1, .int v1), (2, .int v2), (3, .int r4), (4, .int r8), (5, .int (((v2 ||| ((1 : Int32) <<< (v1 &&& 31))) * (2 : Int32)) + r4))]) C rfl (Nat.le_of_ble_eq_true rfl) rfl ?_
  refine mg_aload_n C rfl rfl ?_
  refine mh_gR C rfl rfl rfl (by decide) hf (fun x10 hf => ?_)
  refine mg_iload C rfl rfl ?_
  refine mg_aload_n C rfl rfl ?_
  refine mh_gR C rfl rfl rfl (by decide) hf (fun x11 hf => ?_)
  refine mg_iload C rfl rfl ?_
  refine mh_aI C rfl hf (fun x12 hf => ?_)
  refine mg_iload C rfl rfl ?_
  refine mh_mnI C rfl rfl hRm (by omega) (Nat.le_of_ble_eq_true rfl) ?_
  refine mh_tI C rfl hf (fun c13 hf => ?_)
  exact mh_return C rfl (by omega) (by omega) rfl hf
def fX6_spreadsBy (N : Nat) (v0 : Nat) (v1 : Int32) (v2 : Int32) (c : mm_C) : mR Unit := bX6_spreadsBy_0 N v0 v1 v2 c
set_option maxRecDepth 100000 in
theorem wX6_spreadsBy {Z : mm_Z} {d n N : Nat} (hd : 2 ≤ d) (hn : n + 1 < 1000000) {v0 : Nat} {v1 : Int32} {v2 : Int32} {c : mm_C} (hs : (fX6_spreadsBy N v0 v1 v2 c).isSome = true) : mC Z qX6_spreadsBy d 1 6 [.ref v0, .int v1, .int v2] (n, c) (mP 0 ovU n (fX6_spreadsBy N v0 v1 v2 c)) := by
  refine mC_of gX6_spreadsBy (by decide +kernel) (Nat.le_of_ble_eq_true rfl) fun X C hRm => ?_
  have hf := hO_mP 0 ovU n hs
  have hk : 0 + 1 ≤ 1 := Nat.le_of_ble_eq_true rfl
  have hw : 0 + 6 ≤ 6 := Nat.le_of_ble_eq_true rfl
  show mG _ _ _ _ _ _ _ _ (0, [(0, .ref v0), (1, .int v1), (2, .int v2)], [], (n, c))
  exact wX6_spreadsBy_0 C hRm hd hn hk hw hf
def bX6_spreads_118 (N : Nat)  (k44 : Nat → Int32 → Int32 → mm_C → mR Unit) (v0 : Nat) (v1 : Int32) (v2 : Int32) (c : mm_C) : mR Unit :=
  k44 v0 v1 (v2 + 1) c
set_option maxRecDepth 100000 in
theorem wX6_spreads_118 {Z : mm_Z} {X : mm_T} {k w mc ms d n N : Nat} {Q : mm_O → mm_H → Prop} (C : mm_Ok Z qX6_spreads X) (hRm : mt_R X = mm_rm d mc ms) (hd : 3 ≤ d) (hn : n + 1 < 1000000) (hk : k + 1 ≤ mc) (hw : w + 6 ≤ ms) {k44 : Nat → Int32 → Int32 → mm_C → mR Unit} (hk44 : ∀ (v0 : Nat) (v1 : Int32) (v2 : Int32) (c : mm_C), hO 0 ovU n (k44 v0 v1 v2 c) Q → mG Z qX6_spreads X k w mc ms Q (44, [(0, .ref v0), (1, .int v1), (2, .int v2)], [], (n, c))) {v0 : Nat} {v1 : Int32} {v2 : Int32} {c : mm_C} (hf : hO 0 ovU n (bX6_spreads_118 N  k44 v0 v1 v2 c) Q) : mG Z qX6_spreads X k w mc ms Q (118, [(0, .ref v0), (1, .int v1), (2, .int v2)], [], (n, c)) := by
  unfold bX6_spreads_118 at hf
  refine mg_iinc (lv' := [(0, .ref v0), (1, .int v1), (2, .int (v2 + 1))]) C rfl (Nat.le_of_ble_eq_true rfl) rfl (show _ + Int32.ofInt 1 = _ + 1 by congr 1) rfl ?_
  refine mg_goto C rfl ?_
  exact hk44 _ _ _ _ hf
def bX6_spreads_112 (N : Nat)  (k44 : Nat → Int32 → Int32 → mm_C → mR Unit) (k66 : Nat → Int32 → Int32 → Int32 → mm_C → mR Unit) (v0 : Nat) (v1 : Int32) (v2 : Int32) (v3 : Int32) (c : mm_C) : mR Unit :=
  k66 v0 v1 v2 (v3 + 1) c
set_option maxRecDepth 100000 in
theorem wX6_spreads_112 {Z : mm_Z} {X : mm_T} {k w mc ms d n N : Nat} {Q : mm_O → mm_H → Prop} (C : mm_Ok Z qX6_spreads X) (hRm : mt_R X = mm_rm d mc ms) (hd : 3 ≤ d) (hn : n + 1 < 1000000) (hk : k + 1 ≤ mc) (hw : w + 6 ≤ ms) {k44 : Nat → Int32 → Int32 → mm_C → mR Unit} (hk44 : ∀ (v0 : Nat) (v1 : Int32) (v2 : Int32) (c : mm_C), hO 0 ovU n (k44 v0 v1 v2 c) Q → mG Z qX6_spreads X k w mc ms Q (44, [(0, .ref v0), (1, .int v1), (2, .int v2)], [], (n, c))) {k66 : Nat → Int32 → Int32 → Int32 → mm_C → mR Unit} (hk66 : ∀ (v0 : Nat) (v1 : Int32) (v2 : Int32) (v3 : Int32) (c : mm_C), hO 0 ovU n (k66 v0 v1 v2 v3 c) Q → mG Z qX6_spreads X k w mc ms Q (66, [(0, .ref v0), (1, .int v1), (2, .int v2), (3, .int v3)], [], (n, c))) {v0 : Nat} {v1 : Int32} {v2 : Int32} {v3 : Int32} {c : mm_C} (hf : hO 0 ovU n (bX6_spreads_112 N  k44 k66 v0 v1 v2 v3 c) Q) : mG Z qX6_spreads X k w mc ms Q (112, [(0, .ref v0), (1, .int v1), (2, .int v2), (3, .int v3)], [], (n, c)) := by
  unfold bX6_spreads_112 at hf
  refine mg_iinc (lv' := [(0, .ref v0), (1, .int v1), (2, .int v2), (3, .int (v3 + 1))]) C rfl (Nat.le_of_ble_eq_true rfl) rfl (show _ + Int32.ofInt 1 = _ + 1 by congr 1) rfl ?_
  refine mg_goto C rfl ?_
  exact hk66 _ _ _ _ _ hf
def bX6_spreads_66 (N : Nat)  (k44 : Nat → Int32 → Int32 → mm_C → mR Unit) (k66 : Nat → Int32 → Int32 → Int32 → mm_C → mR Unit) (v0 : Nat) (v1 : Int32) (v2 : Int32) (v3 : Int32) (c : mm_C) : mR Unit :=
  Option.bind (gR c v0 6 6) fun x1 => Option.bind (gI c x1 3 3) fun x2 => if x2 ≤ v3 then (bX6_spreads_118 N  k44 v0 v1 v2 c) else (if ((v1 &&& (v2 ^^^ (-1 : Int32))) &&& ((1 : Int32) <<< (v3 &&& 31))) = 0 then (bX6_spreads_112 N  k44 k66 v0 v1 v2 v3 c) else (Option.bind (gR c v0 6 7) fun x3 => Option.bind (gI c x3 9 2) fun x4 => cV 6 v0 c (fX6_isFree N v0 v3 (x4 ||| v2) c) fun r5 c6 => if r5 = 0 then (bX6_spreads_112 N  k44 k66 v0 v1 v2 v3 c6) else (cV 6 v0 c6 (fX6_spreadsBy N v0 v3 v2 c6) fun (_ : Unit) c7 => bX6_spreads_112 N  k44 k66 v0 v1 v2 v3 c7)))
set_option maxRecDepth 100000 in
theorem wX6_spreads_66 {Z : mm_Z} {X : mm_T} {k w mc ms d n N : Nat} {Q : mm_O → mm_H → Prop} (C : mm_Ok Z qX6_spreads X) (hRm : mt_R X = mm_rm d mc ms) (hd : 3 ≤ d) (hn : n + 1 < 1000000) (hk : k + 1 ≤ mc) (hw : w + 6 ≤ ms) {k44 : Nat → Int32 → Int32 → mm_C → mR Unit} (hk44 : ∀ (v0 : Nat) (v1 : Int32) (v2 : Int32) (c : mm_C), hO 0 ovU n (k44 v0 v1 v2 c) Q → mG Z qX6_spreads X k w mc ms Q (44, [(0, .ref v0), (1, .int v1), (2, .int v2)], [], (n, c))) {k66 : Nat → Int32 → Int32 → Int32 → mm_C → mR Unit} (hk66 : ∀ (v0 : Nat) (v1 : Int32) (v2 : Int32) (v3 : Int32) (c : mm_C), hO 0 ovU n (k66 v0 v1 v2 v3 c) Q → mG Z qX6_spreads X k w mc ms Q (66, [(0, .ref v0), (1, .int v1), (2, .int v2), (3, .int v3)], [], (n, c))) {v0 : Nat} {v1 : Int32} {v2 : Int32} {v3 : Int32} {c : mm_C} (hf : hO 0 ovU n (bX6_spreads_66 N  k44 k66 v0 v1 v2 v3 c) Q) : mG Z qX6_spreads X k w mc ms Q (66, [(0, .ref v0), (1, .int v1), (2, .int v2), (3, .int v3)], [], (n, c)) := by
  unfold bX6_spreads_66 at hf
  refine mg_iload_n C rfl rfl ?_
  refine mg_aload_n C rfl rfl ?_
  refine mh_gR C rfl rfl rfl (by decide) hf (fun x1 hf => ?_)
  refine mh_gI C rfl rfl rfl (by decide) hf (fun x2 hf => ?_)
  refine mh_icmp_ge C rfl hf (fun e_74 hf => ?_) (fun e_74 hf => ?_)
  · refine mg_sub (lv' := [(0, .ref v0), (1, .int v1), (2, .int v2)]) (by simp) ?_
    exact wX6_spreads_118 C hRm hd hn hk hw hk44 hf
  · refine mg_iload_n C rfl rfl ?_
    refine mg_iload_n C rfl rfl ?_
    refine mg_iconst (v := (-1)) C rfl (by decide) ?_
    refine mg_ixor C rfl ?_
    refine mg_iand C rfl ?_
    refine mg_iconst (v := 1) C rfl (by decide) ?_
    refine mg_iload_n C rfl rfl ?_
    refine mg_ishl C rfl ?_
    refine mg_iand C rfl ?_
    refine mh_if_eq C rfl hf (fun e_86 hf => ?_) (fun e_86 hf => ?_)
    · exact wX6_spreads_112 C hRm hd hn hk hw hk44 hk66 hf
    · refine mg_aload_n C rfl rfl ?_
      refine mg_iload_n C rfl rfl ?_
      refine mg_aload_n C rfl rfl ?_
      refine mh_gR C rfl rfl rfl (by decide) hf (fun x3 hf => ?_)
      refine mh_gI C rfl rfl rfl (by decide) hf (fun x4 hf => ?_)
      refine mg_iload_n C rfl rfl ?_
      refine mg_ior C rfl ?_
      refine mh_cVI (M' := qX6_isFree) C rfl rfl aX6_isFree iX6_isFree sX6_isFree hRm (by omega) (by decide) (by omega) (by omega) rfl rfl rfl (Nat.le_of_ble_eq_true rfl) rfl hf (fun hs => wX6_isFree (by omega) (by omega) hs) (fun r5 c6 hf => ?_)
      refine mh_if_eq C rfl hf (fun e_103 hf => ?_) (fun e_103 hf => ?_)
      · exact wX6_spreads_112 C hRm hd hn hk hw hk44 hk66 hf
      · refine mg_aload_n C rfl rfl ?_
        refine mg_iload_n C rfl rfl ?_
        refine mg_iload_n C rfl rfl ?_
        refine mh_cVU (M' := qX6_spreadsBy) C rfl rfl aX6_spreadsBy iX6_spreadsBy sX6_spreadsBy hRm (by omega) (by decide) (by omega) (by omega) rfl rfl rfl (Nat.le_of_ble_eq_true rfl) rfl hf (fun hs => wX6_spreadsBy (by omega) (by omega) hs) (fun c7 hf => ?_)
        exact wX6_spreads_112 C hRm hd hn hk hw hk44 hk66 hf
def lX6_spreads_66 (N : Nat)  (k44 : Nat → Int32 → Int32 → mm_C → mR Unit) : Nat → Nat → Int32 → Int32 → Int32 → mm_C → mR Unit
  | 0, _, _, _, _, _ => none
  | m + 1, v0, v1, v2, v3, c => bX6_spreads_66 N  k44 (lX6_spreads_66 N  k44 m) v0 v1 v2 v3 c
theorem WX6_spreads_66 {Z : mm_Z} {X : mm_T} {k w mc ms d n N : Nat} {Q : mm_O → mm_H → Prop} (C : mm_Ok Z qX6_spreads X) (hRm : mt_R X = mm_rm d mc ms) (hd : 3 ≤ d) (hn : n + 1 < 1000000) (hk : k + 1 ≤ mc) (hw : w + 6 ≤ ms) {k44 : Nat → Int32 → Int32 → mm_C → mR Unit} (hk44 : ∀ (v0 : Nat) (v1 : Int32) (v2 : Int32) (c : mm_C), hO 0 ovU n (k44 v0 v1 v2 c) Q → mG Z qX6_spreads X k w mc ms Q (44, [(0, .ref v0), (1, .int v1), (2, .int v2)], [], (n, c))) : ∀ (m : Nat) {v0 : Nat} {v1 : Int32} {v2 : Int32} {v3 : Int32} {c : mm_C} (hf : hO 0 ovU n (lX6_spreads_66 N  k44 m v0 v1 v2 v3 c) Q), mG Z qX6_spreads X k w mc ms Q (66, [(0, .ref v0), (1, .int v1), (2, .int v2), (3, .int v3)], [], (n, c)) := by
  intro m
  induction m with
  | zero => intro v0 v1 v2 v3 c hf; exact absurd hf hO_none
  | succ m ih => intro v0 v1 v2 v3 c hf; exact wX6_spreads_66 C hRm hd hn hk hw hk44 (fun v0 v1 v2 v3 c hf => ih hf) hf
def bX6_spreads_44 (N : Nat)  (k44 : Nat → Int32 → Int32 → mm_C → mR Unit) (v0 : Nat) (v1 : Int32) (v2 : Int32) (c : mm_C) : mR Unit :=
  if (256 : Int32) ≤ v2 then (some (.inl (), c)) else (if ¬ (v2 &&& (v1 ^^^ (-1 : Int32))) = 0 then (bX6_spreads_118 N  k44 v0 v1 v2 c) else (cV 6 v0 c (fX6_meetPlaces N v0 v2 c) fun (_ : Unit) c1 => lX6_spreads_66 N  k44 N v0 v1 v2 (0 : Int32) c1))
set_option maxRecDepth 100000 in
theorem wX6_spreads_44 {Z : mm_Z} {X : mm_T} {k w mc ms d n N : Nat} {Q : mm_O → mm_H → Prop} (C : mm_Ok Z qX6_spreads X) (hRm : mt_R X = mm_rm d mc ms) (hd : 3 ≤ d) (hn : n + 1 < 1000000) (hk : k + 1 ≤ mc) (hw : w + 6 ≤ ms) {k44 : Nat → Int32 → Int32 → mm_C → mR Unit} (hk44 : ∀ (v0 : Nat) (v1 : Int32) (v2 : Int32) (c : mm_C), hO 0 ovU n (k44 v0 v1 v2 c) Q → mG Z qX6_spreads X k w mc ms Q (44, [(0, .ref v0), (1, .int v1), (2, .int v2)], [], (n, c))) {v0 : Nat} {v1 : Int32} {v2 : Int32} {c : mm_C} (hf : hO 0 ovU n (bX6_spreads_44 N  k44 v0 v1 v2 c) Q) : mG Z qX6_spreads X k w mc ms Q (44, [(0, .ref v0), (1, .int v1), (2, .int v2)], [], (n, c)) := by
  unfold bX6_spreads_44 at hf
  refine mg_iload_n C rfl rfl ?_
  refine mg_sipush (v := 256) C rfl (by decide) ?_
  refine mh_icmp_ge C rfl hf (fun e_48 hf => ?_) (fun e_48 hf => ?_)
  · exact mh_return C rfl (by omega) (by omega) rfl hf
  · refine mg_iload_n C rfl rfl ?_
    refine mg_iload_n C rfl rfl ?_
    refine mg_iconst (v := (-1)) C rfl (by decide) ?_
    refine mg_ixor C rfl ?_
    refine mg_iand C rfl ?_
    refine mh_if_ne C rfl hf (fun e_56 hf => ?_) (fun e_56 hf => ?_)
    · exact wX6_spreads_118 C hRm hd hn hk hw hk44 hf
    · refine mg_aload_n C rfl rfl ?_
      refine mg_iload_n C rfl rfl ?_
      refine mh_cVU (M' := qX6_meetPlaces) C rfl rfl aX6_meetPlaces iX6_meetPlaces sX6_meetPlaces hRm (by omega) (by decide) (by omega) (by omega) rfl rfl rfl (Nat.le_of_ble_eq_true rfl) rfl hf (fun hs => wX6_meetPlaces (by omega) (by omega) hs) (fun c1 hf => ?_)
      refine mg_iconst (v := 0) C rfl (by decide) ?_
      refine mg_istore_n (lv' := [(0, .ref v0), (1, .int v1), (2, .int v2), (3, .int (0 : Int32))]) C rfl (Nat.le_of_ble_eq_true rfl) rfl ?_
      exact WX6_spreads_66 C hRm hd hn hk hw hk44 N hf
def lX6_spreads_44 (N : Nat)  : Nat → Nat → Int32 → Int32 → mm_C → mR Unit
  | 0, _, _, _, _ => none
  | m + 1, v0, v1, v2, c => bX6_spreads_44 N  (lX6_spreads_44 N  m) v0 v1 v2 c
theorem WX6_spreads_44 {Z : mm_Z} {X : mm_T} {k w mc ms d n N : Nat} {Q : mm_O → mm_H → Prop} (C : mm_Ok Z qX6_spreads X) (hRm : mt_R X = mm_rm d mc ms) (hd : 3 ≤ d) (hn : n + 1 < 1000000) (hk : k + 1 ≤ mc) (hw : w + 6 ≤ ms) : ∀ (m : Nat) {v0 : Nat} {v1 : Int32} {v2 : Int32} {c : mm_C} (hf : hO 0 ovU n (lX6_spreads_44 N  m v0 v1 v2 c) Q), mG Z qX6_spreads X k w mc ms Q (44, [(0, .ref v0), (1, .int v1), (2, .int v2)], [], (n, c)) := by
  intro m
  induction m with
  | zero => intro v0 v1 v2 c hf; exact absurd hf hO_none
  | succ m ih => intro v0 v1 v2 c hf; exact wX6_spreads_44 C hRm hd hn hk hw (fun v0 v1 v2 c hf => ih hf) hf
def bX6_spreads_23 (N : Nat)  (v0 : Nat) (v1 : Int32) (c : mm_C) : mR Unit :=
  Option.bind (gR c v0 6 11) fun x1 => Option.bind (gR c v0 6 7) fun x2 => Option.bind (gI c x2 9 1) fun x3 => Option.bind (gR c v0 6 7) fun x4 => Option.bind (gI c x4 9 0) fun x5 => Option.bind (tI c x1 x3 x5) fun c6 => lX6_spreads_44 N  N v0 v1 (0 : Int32) c6
set_option maxRecDepth 100000 in
theorem wX6_spreads_23 {Z : mm_Z} {X : mm_T} {k w mc ms d n N : Nat} {Q : mm_O → mm_H → Prop} (C : mm_Ok Z qX6_spreads X) (hRm : mt_R X = mm_rm d mc ms) (hd : 3 ≤ d) (hn : n + 1 < 1000000) (hk : k + 1 ≤ mc) (hw : w + 6 ≤ ms) {v0 : Nat} {v1 : Int32} {c : mm_C} (hf : hO 0 ovU n (bX6_spreads_23 N  v0 v1 c) Q) : mG Z qX6_spreads X k w mc ms Q (23, [(0, .ref v0), (1, .int v1)], [], (n, c)) := by
  unfold bX6_spreads_23 at hf
  refine mg_aload_n C rfl rfl ?_
  refine mh_gR C rfl rfl rfl (by decide) hf (fun x1 hf => ?_)
  refine mg_aload_n C rfl rfl ?_
  refine mh_gR C rfl rfl rfl (by decide) hf (fun x2 hf => ?_)
  refine mh_gI C rfl rfl rfl (by decide) hf (fun x3 hf => ?_)
  refine mg_aload_n C rfl rfl ?_
  refine mh_gR C rfl rfl rfl (by decide) hf (fun x4 hf => ?_)
  refine mh_gI C rfl rfl rfl (by decide) hf (fun x5 hf => ?_)
  refine mh_tI C rfl hf (fun c6 hf => ?_)
  refine mg_iconst (v := 0) C rfl (by decide) ?_
  refine mg_istore_n (lv' := [(0, .ref v0), (1, .int v1), (2, .int (0 : Int32))]) C rfl (Nat.le_of_ble_eq_true rfl) rfl ?_
  exact WX6_spreads_44 C hRm hd hn hk hw N hf
def bX6_spreads_2 (N : Nat)  (k2 : Nat → Int32 → Int32 → mm_C → mR Unit) (v0 : Nat) (v1 : Int32) (v2 : Int32) (c : mm_C) : mR Unit :=
  if (512 : Int32) ≤ v2 then (bX6_spreads_23 N  v0 v1 c) else (Option.bind (gR c v0 6 11) fun x1 => Option.bind (tI c x1 v2 (1000000 : Int32)) fun c2 => k2 v0 v1 (v2 + 1) c2)
set_option maxRecDepth 100000 in
theorem wX6_spreads_2 {Z : mm_Z} {X : mm_T} {k w mc ms d n N : Nat} {Q : mm_O → mm_H → Prop} (C : mm_Ok Z qX6_spreads X) (hRm : mt_R X = mm_rm d mc ms) (hd : 3 ≤ d) (hn : n + 1 < 1000000) (hk : k + 1 ≤ mc) (hw : w + 6 ≤ ms) {k2 : Nat → Int32 → Int32 → mm_C → mR Unit} (hk2 : ∀ (v0 : Nat) (v1 : Int32) (v2 : Int32) (c : mm_C), hO 0 ovU n (k2 v0 v1 v2 c) Q → mG Z qX6_spreads X k w mc ms Q (2, [(0, .ref v0), (1, .int v1), (2, .int v2)], [], (n, c))) {v0 : Nat} {v1 : Int32} {v2 : Int32} {c : mm_C} (hf : hO 0 ovU n (bX6_spreads_2 N  k2 v0 v1 v2 c) Q) : mG Z qX6_spreads X k w mc ms Q (2, [(0, .ref v0), (1, .int v1), (2, .int v2)], [], (n, c)) := by
  unfold bX6_spreads_2 at hf
  refine mg_iload_n C rfl rfl ?_
  refine mg_sipush (v := 512) C rfl (by decide) ?_
  refine mh_icmp_ge C rfl hf (fun e_6 hf => ?_) (fun e_6 hf => ?_)
  · refine mg_sub (lv' := [(0, .ref v0), (1, .int v1)]) (by simp) ?_
    exact wX6_spreads_23 C hRm hd hn hk hw hf
  · refine mg_aload_n C rfl rfl ?_
    refine mh_gR C rfl rfl rfl (by decide) hf (fun x1 hf => ?_)
    refine mg_iload_n C rfl rfl ?_
    refine mg_ldc C rfl rfl ?_
    refine mh_tI C rfl hf (fun c2 hf => ?_)
    refine mg_iinc (lv' := [(0, .ref v0), (1, .int v1), (2, .int (v2 + 1))]) C rfl (Nat.le_of_ble_eq_true rfl) rfl (show _ + Int32.ofInt 1 = _ + 1 by congr 1) rfl ?_
    refine mg_goto C rfl ?_
    exact hk2 _ _ _ _ hf
def lX6_spreads_2 (N : Nat)  : Nat → Nat → Int32 → Int32 → mm_C → mR Unit
  | 0, _, _, _, _ => none
  | m + 1, v0, v1, v2, c => bX6_spreads_2 N  (lX6_spreads_2 N  m) v0 v1 v2 c
theorem WX6_spreads_2 {Z : mm_Z} {X : mm_T} {k w mc ms d n N : Nat} {Q : mm_O → mm_H → Prop} (C : mm_Ok Z qX6_spreads X) (hRm : mt_R X = mm_rm d mc ms) (hd : 3 ≤ d) (hn : n + 1 < 1000000) (hk : k + 1 ≤ mc) (hw : w + 6 ≤ ms) : ∀ (m : Nat) {v0 : Nat} {v1 : Int32} {v2 : Int32} {c : mm_C} (hf : hO 0 ovU n (lX6_spreads_2 N  m v0 v1 v2 c) Q), mG Z qX6_spreads X k w mc ms Q (2, [(0, .ref v0), (1, .int v1), (2, .int v2)], [], (n, c)) := by
  intro m
  induction m with
  | zero => intro v0 v1 v2 c hf; exact absurd hf hO_none
  | succ m ih => intro v0 v1 v2 c hf; exact wX6_spreads_2 C hRm hd hn hk hw (fun v0 v1 v2 c hf => ih hf) hf
def bX6_spreads_0 (N : Nat)  (v0 : Nat) (v1 : Int32) (c : mm_C) : mR Unit :=
  lX6_spreads_2 N  N v0 v1 (0 : Int32) c
set_option maxRecDepth 100000 in
theorem wX6_spreads_0 {Z : mm_Z} {X : mm_T} {k w mc ms d n N : Nat} {Q : mm_O → mm_H → Prop} (C : mm_Ok Z qX6_spreads X) (hRm : mt_R X = mm_rm d mc ms) (hd : 3 ≤ d) (hn : n + 1 < 1000000) (hk : k + 1 ≤ mc) (hw : w + 6 ≤ ms) {v0 : Nat} {v1 : Int32} {c : mm_C} (hf : hO 0 ovU n (bX6_spreads_0 N  v0 v1 c) Q) : mG Z qX6_spreads X k w mc ms Q (0, [(0, .ref v0), (1, .int v1)], [], (n, c)) := by
  unfold bX6_spreads_0 at hf
  refine mg_iconst (v := 0) C rfl (by decide) ?_
  refine mg_istore_n (lv' := [(0, .ref v0), (1, .int v1), (2, .int (0 : Int32))]) C rfl (Nat.le_of_ble_eq_true rfl) rfl ?_
  exact WX6_spreads_2 C hRm hd hn hk hw N hf
def fX6_spreads (N : Nat) (v0 : Nat) (v1 : Int32) (c : mm_C) : mR Unit := bX6_spreads_0 N v0 v1 c
set_option maxRecDepth 100000 in
theorem wX6_spreads {Z : mm_Z} {d n N : Nat} (hd : 3 ≤ d) (hn : n + 1 < 1000000) {v0 : Nat} {v1 : Int32} {c : mm_C} (hs : (fX6_spreads N v0 v1 c).isSome = true) : mC Z qX6_spreads d 1 6 [.ref v0, .int v1] (n, c) (mP 0 ovU n (fX6_spreads N v0 v1 c)) := by
  refine mC_of gX6_spreads (by decide +kernel) (Nat.le_of_ble_eq_true rfl) fun X C hRm => ?_
  have hf := hO_mP 0 ovU n hs
  have hk : 0 + 1 ≤ 1 := Nat.le_of_ble_eq_true rfl
  have hw : 0 + 6 ≤ 6 := Nat.le_of_ble_eq_true rfl
  show mG _ _ _ _ _ _ _ _ (0, [(0, .ref v0), (1, .int v1)], [], (n, c))
  exact wX6_spreads_0 C hRm hd hn hk hw hf
def bX6_endOf_0 (N : Nat)  (v0 : Nat) (v1 : Int32) (c : mm_C) : mR Int32 :=
  Option.bind (gR c v0 6 11) fun x1 => Option.bind (aI c x1 ((v1 * (2 : Int32)) + (0 : Int32))) fun x2 => Option.bind (gR c v0 6 11) fun x3 => Option.bind (aI c x3 ((v1 * (2 : Int32)) + (1 : Int32))) fun x4 => Option.bind (gI c v0 6 8) fun x5 => if (mnI x2 x4) ≤ x5 then (some (.inl (mnI x2 x4), c)) else (some (.inl (-1 : Int32), c))
set_option maxRecDepth 100000 in
theorem wX6_endOf_0 {Z : mm_Z} {X : mm_T} {k w mc ms d n N : Nat} {Q : mm_O → mm_H → Prop} (C : mm_Ok Z qX6_endOf X) (hRm : mt_R X = mm_rm d mc ms) (hd : 1 ≤ d) (hn : n + 1 < 1000000) (hk : k + 1 ≤ mc) (hw : w + 6 ≤ ms) {v0 : Nat} {v1 : Int32} {c : mm_C} (hf : hO 0 ovI n (bX6_endOf_0 N  v0 v1 c) Q) : mG Z qX6_endOf X k w mc ms Q (0, [(0, .ref v0), (1, .int v1)], [], (n, c)) := by
  unfold bX6_endOf_0 at hf
  refine mg_aload_n C rfl rfl ?_
  refine mh_gR C rfl rfl rfl (by decide) hf (fun x1 hf => ?_)
  refine mg_iload_n C rfl rfl ?_
  refine mg_iconst (v := 2) C rfl (by decide) ?_
  refine mg_imul C rfl ?_
  refine mg_iconst (v := 0) C rfl (by decide) ?_
  refine mg_iadd C rfl ?_
  refine mh_aI C rfl hf (fun x2 hf => ?_)
  refine mg_aload_n C rfl rfl ?_
  refine mh_gR C rfl rfl rfl (by decide) hf (fun x3 hf => ?_)
  refine mg_iload_n C rfl rfl ?_
  refine mg_iconst (v := 2) C rfl (by decide) ?_
  refine mg_imul C rfl ?_
  refine mg_iconst (v := 1) C rfl (by decide) ?_
  refine mg_iadd C rfl ?_
  refine mh_aI C rfl hf (fun x4 hf => ?_)
  refine mh_mnI C rfl rfl hRm (by omega) (Nat.le_of_ble_eq_true rfl) ?_
  refine mg_istore_n (lv' := [(0, .ref v0), (1, .int v1), (2, .int (mnI x2 x4))]) C rfl (Nat.le_of_ble_eq_true rfl) rfl ?_
  refine mg_iload_n C rfl rfl ?_
  refine mg_aload_n C rfl rfl ?_
  refine mh_gI C rfl rfl rfl (by decide) hf (fun x5 hf => ?_)
  refine mh_icmp_le C rfl hf (fun e_29 hf => ?_) (fun e_29 hf => ?_)
  · refine mg_iload_n C rfl rfl ?_
    exact mh_ireturn C rfl (by omega) (by omega) rfl hf
  · refine mg_iconst (v := (-1)) C rfl (by decide) ?_
    refine mg_goto C rfl ?_
    exact mh_ireturn C rfl (by omega) (by omega) rfl hf
def fX6_endOf (N : Nat) (v0 : Nat) (v1 : Int32) (c : mm_C) : mR Int32 := bX6_endOf_0 N v0 v1 c
set_option maxRecDepth 100000 in
theorem wX6_endOf {Z : mm_Z} {d n N : Nat} (hd : 1 ≤ d) (hn : n + 1 < 1000000) {v0 : Nat} {v1 : Int32} {c : mm_C} (hs : (fX6_endOf N v0 v1 c).isSome = true) : mC Z qX6_endOf d 1 6 [.ref v0, .int v1] (n, c) (mP 0 ovI n (fX6_endOf N v0 v1 c)) := by
  refine mC_of gX6_endOf (by decide +kernel) (Nat.le_of_ble_eq_true rfl) fun X C hRm => ?_
  have hf := hO_mP 0 ovI n hs
  have hk : 0 + 1 ≤ 1 := Nat.le_of_ble_eq_true rfl
  have hw : 0 + 6 ≤ 6 := Nat.le_of_ble_eq_true rfl
  show mG _ _ _ _ _ _ _ _ (0, [(0, .ref v0), (1, .int v1)], [], (n, c))
  exact wX6_endOf_0 C hRm hd hn hk hw hf
def bX6_picksMost_69 (N : Nat)  (k7 : Nat → Int32 → mm_C → mR Unit) (v0 : Nat) (v1 : Int32) (c : mm_C) : mR Unit :=
  k7 v0 (v1 + 1) c
set_option maxRecDepth 100000 in
theorem wX6_picksMost_69 {Z : mm_Z} {X : mm_T} {k w mc ms d n N : Nat} {Q : mm_O → mm_H → Prop} (C : mm_Ok Z qX6_picksMost X) (hRm : mt_R X = mm_rm d mc ms) (hd : 2 ≤ d) (hn : n + 1 < 1000000) (hk : k + 1 ≤ mc) (hw : w + 6 ≤ ms) {k7 : Nat → Int32 → mm_C → mR Unit} (hk7 : ∀ (v0 : Nat) (v1 : Int32) (c : mm_C), hO 0 ovU n (k7 v0 v1 c) Q → mG Z qX6_picksMost X k w mc ms Q (7, [(0, .ref v0), (1, .int v1)], [], (n, c))) {v0 : Nat} {v1 : Int32} {c : mm_C} (hf : hO 0 ovU n (bX6_picksMost_69 N  k7 v0 v1 c) Q) : mG Z qX6_picksMost X k w mc ms Q (69, [(0, .ref v0), (1, .int v1)], [], (n, c)) := by
  unfold bX6_picksMost_69 at hf
  refine mg_iinc (lv' := [(0, .ref v0), (1, .int (v1 + 1))]) C rfl (Nat.le_of_ble_eq_true rfl) rfl (show _ + Int32.ofInt 1 = _ + 1 by congr 1) rfl ?_
  refine mg_goto C rfl ?_
  exact hk7 _ _ _ hf
def bX6_picksMost_54 (N : Nat)  (k7 : Nat → Int32 → mm_C → mR Unit) (v0 : Nat) (v1 : Int32) (v2 : Int32) (v3 : Int32) (c : mm_C) : mR Unit :=
  Option.bind (pI c v0 6 1 v3) fun c1 => Option.bind (pI c1 v0 6 2 v2) fun c2 => Option.bind (pI c2 v0 6 3 v1) fun c3 => bX6_picksMost_69 N  k7 v0 v1 c3
set_option maxRecDepth 100000 in
theorem wX6_picksMost_54 {Z : mm_Z} {X : mm_T} {k w mc ms d n N : Nat} {Q : mm_O → mm_H → Prop} (C : mm_Ok Z qX6_picksMost X) (hRm : mt_R X = mm_rm d mc ms) (hd : 2 ≤ d) (hn : n + 1 < 1000000) (hk : k + 1 ≤ mc) (hw : w + 6 ≤ ms) {k7 : Nat → Int32 → mm_C → mR Unit} (hk7 : ∀ (v0 : Nat) (v1 : Int32) (c : mm_C), hO 0 ovU n (k7 v0 v1 c) Q → mG Z qX6_picksMost X k w mc ms Q (7, [(0, .ref v0), (1, .int v1)], [], (n, c))) {v0 : Nat} {v1 : Int32} {v2 : Int32} {v3 : Int32} {c : mm_C} (hf : hO 0 ovU n (bX6_picksMost_54 N  k7 v0 v1 v2 v3 c) Q) : mG Z qX6_picksMost X k w mc ms Q (54, [(0, .ref v0), (1, .int v1), (2, .int v2), (3, .int v3)], [], (n, c)) := by
  unfold bX6_picksMost_54 at hf
  refine mg_aload_n C rfl rfl ?_
  refine mg_iload_n C rfl rfl ?_
  refine mh_pI C rfl rfl rfl (by decide) rfl rfl rfl hf (fun c1 hf => ?_)
  refine mg_aload_n C rfl rfl ?_
  refine mg_iload_n C rfl rfl ?_
  refine mh_pI C rfl rfl rfl (by decide) rfl rfl rfl hf (fun c2 hf => ?_)
  refine mg_aload_n C rfl rfl ?_
  refine mg_iload_n C rfl rfl ?_
  refine mh_pI C rfl rfl rfl (by decide) rfl rfl rfl hf (fun c3 hf => ?_)
  refine mg_sub (lv' := [(0, .ref v0), (1, .int v1)]) (by simp) ?_
  exact wX6_picksMost_69 C hRm hd hn hk hw hk7 hf
def bX6_picksMost_7 (N : Nat)  (k7 : Nat → Int32 → mm_C → mR Unit) (v0 : Nat) (v1 : Int32) (c : mm_C) : mR Unit :=
  if (256 : Int32) ≤ v1 then (some (.inl (), c)) else (cV 6 v0 c (fX6_endOf N v0 v1 c) fun r1 c2 => cS (fJ6_bitCount_0f7a4 N v1 c2) fun r3 c4 => if r1 = (-1 : Int32) then (bX6_picksMost_69 N  k7 v0 v1 c4) else (Option.bind (gI c4 v0 6 1) fun x5 => if x5 < r3 then (bX6_picksMost_54 N  k7 v0 v1 r1 r3 c4) else (Option.bind (gI c4 v0 6 1) fun x6 => if ¬ r3 = x6 then (bX6_picksMost_69 N  k7 v0 v1 c4) else (Option.bind (gI c4 v0 6 2) fun x7 => if x7 ≤ r1 then (bX6_picksMost_69 N  k7 v0 v1 c4) else (bX6_picksMost_54 N  k7 v0 v1 r1 r3 c4)))))
set_option maxRecDepth 100000 in
theorem wX6_picksMost_7 {Z : mm_Z} {X : mm_T} {k w mc ms d n N : Nat} {Q : mm_O → mm_H → Prop} (C : mm_Ok Z qX6_picksMost X) (hRm : mt_R X = mm_rm d mc ms) (hd : 2 ≤ d) (hn : n + 1 < 1000000) (hk : k + 1 ≤ mc) (hw : w + 6 ≤ ms) {k7 : Nat → Int32 → mm_C → mR Unit} (hk7 : ∀ (v0 : Nat) (v1 : Int32) (c : mm_C), hO 0 ovU n (k7 v0 v1 c) Q → mG Z qX6_picksMost X k w mc ms Q (7, [(0, .ref v0), (1, .int v1)], [], (n, c))) {v0 : Nat} {v1 : Int32} {c : mm_C} (hf : hO 0 ovU n (bX6_picksMost_7 N  k7 v0 v1 c) Q) : mG Z qX6_picksMost X k w mc ms Q (7, [(0, .ref v0), (1, .int v1)], [], (n, c)) := by
  unfold bX6_picksMost_7 at hf
  refine mg_iload_n C rfl rfl ?_
  refine mg_sipush (v := 256) C rfl (by decide) ?_
  refine mh_icmp_ge C rfl hf (fun e_11 hf => ?_) (fun e_11 hf => ?_)
  · exact mh_return C rfl (by omega) (by omega) rfl hf
  · refine mg_aload_n C rfl rfl ?_
    refine mg_iload_n C rfl rfl ?_
    refine mh_cVI (M' := qX6_endOf) C rfl rfl aX6_endOf iX6_endOf sX6_endOf hRm (by omega) (by decide) (by omega) (by omega) rfl rfl rfl (Nat.le_of_ble_eq_true rfl) rfl hf (fun hs => wX6_endOf (by omega) (by omega) hs) (fun r1 c2 hf => ?_)
    refine mg_istore_n (lv' := [(0, .ref v0), (1, .int v1), (2, .int r1)]) C rfl (Nat.le_of_ble_eq_true rfl) rfl ?_
    refine mg_iload_n C rfl rfl ?_
    refine mh_cSI (M' := qJ6_bitCount_0f7a4) C rfl rfl aJ6_bitCount_0f7a4 tJ6_bitCount_0f7a4 hRm (by omega) (by decide) (by omega) (by omega) rfl rfl (Nat.le_of_ble_eq_true rfl) rfl hf (fun hs => wJ6_bitCount_0f7a4 (by omega) (by omega) hs) (fun r3 c4 hf => ?_)
    refine mg_istore_n (lv' := [(0, .ref v0), (1, .int v1), (2, .int r1), (3, .int r3)]) C rfl (Nat.le_of_ble_eq_true rfl) rfl ?_
    refine mg_iload_n C rfl rfl ?_
    refine mg_iconst (v := (-1)) C rfl (by decide) ?_
    refine mh_icmp_eq C rfl hf (fun e_27 hf => ?_) (fun e_27 hf => ?_)
    · refine mg_sub (lv' := [(0, .ref v0), (1, .int v1)]) (by simp) ?_
      exact wX6_picksMost_69 C hRm hd hn hk hw hk7 hf
    · refine mg_iload_n C rfl rfl ?_
      refine mg_aload_n C rfl rfl ?_
      refine mh_gI C rfl rfl rfl (by decide) hf (fun x5 hf => ?_)
      refine mh_icmp_gt C rfl hf (fun e_35 hf => ?_) (fun e_35 hf => ?_)
      · exact wX6_picksMost_54 C hRm hd hn hk hw hk7 hf
      · refine mg_iload_n C rfl rfl ?_
        refine mg_aload_n C rfl rfl ?_
        refine mh_gI C rfl rfl rfl (by decide) hf (fun x6 hf => ?_)
        refine mh_icmp_ne C rfl hf (fun e_43 hf => ?_) (fun e_43 hf => ?_)
        · refine mg_sub (lv' := [(0, .ref v0), (1, .int v1)]) (by simp) ?_
          exact wX6_picksMost_69 C hRm hd hn hk hw hk7 hf
        · refine mg_iload_n C rfl rfl ?_
          refine mg_aload_n C rfl rfl ?_
          refine mh_gI C rfl rfl rfl (by decide) hf (fun x7 hf => ?_)
          refine mh_icmp_ge C rfl hf (fun e_51 hf => ?_) (fun e_51 hf => ?_)
          · refine mg_sub (lv' := [(0, .ref v0), (1, .int v1)]) (by simp) ?_
            exact wX6_picksMost_69 C hRm hd hn hk hw hk7 hf
          · exact wX6_picksMost_54 C hRm hd hn hk hw hk7 hf
def lX6_picksMost_7 (N : Nat)  : Nat → Nat → Int32 → mm_C → mR Unit
  | 0, _, _, _ => none
  | m + 1, v0, v1, c => bX6_picksMost_7 N  (lX6_picksMost_7 N  m) v0 v1 c
theorem WX6_picksMost_7 {Z : mm_Z} {X : mm_T} {k w mc ms d n N : Nat} {Q : mm_O → mm_H → Prop} (C : mm_Ok Z qX6_picksMost X) (hRm : mt_R X = mm_rm d mc ms) (hd : 2 ≤ d) (hn : n + 1 < 1000000) (hk : k + 1 ≤ mc) (hw : w + 6 ≤ ms) : ∀ (m : Nat) {v0 : Nat} {v1 : Int32} {c : mm_C} (hf : hO 0 ovU n (lX6_picksMost_7 N  m v0 v1 c) Q), mG Z qX6_picksMost X k w mc ms Q (7, [(0, .ref v0), (1, .int v1)], [], (n, c)) := by
  intro m
  induction m with
  | zero => intro v0 v1 c hf; exact absurd hf hO_none
  | succ m ih => intro v0 v1 c hf; exact wX6_picksMost_7 C hRm hd hn hk hw (fun v0 v1 c hf => ih hf) hf
def bX6_picksMost_0 (N : Nat)  (v0 : Nat) (c : mm_C) : mR Unit :=
  Option.bind (pI c v0 6 1 (-1 : Int32)) fun c1 => lX6_picksMost_7 N  N v0 (0 : Int32) c1
set_option maxRecDepth 100000 in
theorem wX6_picksMost_0 {Z : mm_Z} {X : mm_T} {k w mc ms d n N : Nat} {Q : mm_O → mm_H → Prop} (C : mm_Ok Z qX6_picksMost X) (hRm : mt_R X = mm_rm d mc ms) (hd : 2 ≤ d) (hn : n + 1 < 1000000) (hk : k + 1 ≤ mc) (hw : w + 6 ≤ ms) {v0 : Nat} {c : mm_C} (hf : hO 0 ovU n (bX6_picksMost_0 N  v0 c) Q) : mG Z qX6_picksMost X k w mc ms Q (0, [(0, .ref v0)], [], (n, c)) := by
  unfold bX6_picksMost_0 at hf
  refine mg_aload_n C rfl rfl ?_
  refine mg_iconst (v := (-1)) C rfl (by decide) ?_
  refine mh_pI C rfl rfl rfl (by decide) rfl rfl rfl hf (fun c1 hf => ?_)
  refine mg_iconst (v := 0) C rfl (by decide) ?_
  refine mg_istore_n (lv' := [(0, .ref v0), (1, .int (0 : Int32))]) C rfl (Nat.le_of_ble_eq_true rfl) rfl ?_
  exact WX6_picksMost_7 C hRm hd hn hk hw N hf
def fX6_picksMost (N : Nat) (v0 : Nat) (c : mm_C) : mR Unit := bX6_picksMost_0 N v0 c
set_option maxRecDepth 100000 in
theorem wX6_picksMost {Z : mm_Z} {d n N : Nat} (hd : 2 ≤ d) (hn : n + 1 < 1000000) {v0 : Nat} {c : mm_C} (hs : (fX6_picksMost N v0 c).isSome = true) : mC Z qX6_picksMost d 1 6 [.ref v0] (n, c) (mP 0 ovU n (fX6_picksMost N v0 c)) := by
  refine mC_of gX6_picksMost (by decide +kernel) (Nat.le_of_ble_eq_true rfl) fun X C hRm => ?_
  have hf := hO_mP 0 ovU n hs
  have hk : 0 + 1 ≤ 1 := Nat.le_of_ble_eq_true rfl
  have hw : 0 + 6 ≤ 6 := Nat.le_of_ble_eq_true rfl
  show mG _ _ _ _ _ _ _ _ (0, [(0, .ref v0)], [], (n, c))
  exact wX6_picksMost_0 C hRm hd hn hk hw hf
def bX6_beginsRestBy_87 (N : Nat)  (v0 : Nat) (v6 : Int32) (v7 : Int32) (s0 : Int32) (s1 : Int32) (c : mm_C) : mR Unit :=
  Option.bind (gR c v0 6 12) fun x1 => Option.bind (gR c v0 6 12) fun x2 => Option.bind (aI c x2 v7) fun x3 => Option.bind (tI c x1 v7 (mxI x3 v6)) fun c4 => Option.bind (gR c4 v0 6 12) fun x5 => Option.bind (gR c4 v0 6 12) fun x6 => Option.bind (aI c4 x6 (s0 + s1)) fun x7 => Option.bind (gR c4 v0 6 6) fun x8 => Option.bind (gI c4 x8 3 1) fun x9 => Option.bind (tI c4 x5 (s0 + s1) (mxI x7 (mxI (-1 : Int32) (v6 - x9)))) fun c10 => some (.inl (), c10)
set_option maxRecDepth 100000 in
theorem wX6_beginsRestBy_87 {Z : mm_Z} {X : mm_T} {k w mc ms d n N : Nat} {Q : mm_O → mm_H → Prop} (C : mm_Ok Z qX6_beginsRestBy X) (hRm : mt_R X = mm_rm d mc ms) (hd : 2 ≤ d) (hn : n + 1 < 1000000) (hk : k + 1 ≤ mc) (hw : w + 6 ≤ ms) {v0 : Nat} {v6 : Int32} {v7 : Int32} {s0 : Int32} {s1 : Int32} {c : mm_C} (hf : hO 0 ovU n (bX6_beginsRestBy_87 N  v0 v6 v7 s0 s1 c) Q) : mG Z qX6_beginsRestBy X k w mc ms Q (87, [(0, .ref v0), (6, .int v6), (7, .int v7)], [.int s1, .int s0], (n, c)) := by
  unfold bX6_beginsRestBy_87 at hf
  refine mg_iadd C rfl ?_
  refine mg_istore (lv' := [(0, .ref v0), (6, .int v6), (7, .int v7), (8, .int (s0 + s1))]) C rfl (Nat.le_of_ble_eq_true rfl) rfl ?_
  refine mg_aload_n C rfl rfl ?_
  refine mh_gR C rfl rfl rfl (by decide) hf (fun x1 hf => ?_)
  refine mg_iload C rfl rfl ?_
  refine mg_aload_n C rfl rfl ?_
  refine mh_gR C rfl rfl rfl (by decide) hf (fun x2 hf => ?_)
  refine mg_iload C rfl rfl ?_
  refine mh_aI C rfl hf (fun x3 hf => ?_)
  refine mg_iload C rfl rfl ?_
  refine mh_mxI C rfl rfl hRm (by omega) (Nat.le_of_ble_eq_true rfl) ?_
  refine mh_tI C rfl hf (fun c4 hf => ?_)
  refine mg_aload_n C rfl rfl ?_
  refine mh_gR C rfl rfl rfl (by decide) hf (fun x5 hf => ?_)
  refine mg_iload C rfl rfl ?_
  refine mg_aload_n C rfl rfl ?_
  refine mh_gR C rfl rfl rfl (by decide) hf (fun x6 hf => ?_)
  refine mg_iload C rfl rfl ?_
  refine mh_aI C rfl hf (fun x7 hf => ?_)
  refine mg_iconst (v := (-1)) C rfl (by decide) ?_
  refine mg_iload C rfl rfl ?_
  refine mg_aload_n C rfl rfl ?_
  refine mh_gR C rfl rfl rfl (by decide) hf (fun x8 hf => ?_)
  refine mh_gI C rfl rfl rfl (by decide) hf (fun x9 hf => ?_)
  refine mg_isub C rfl ?_
  refine mh_mxI C rfl rfl hRm (by omega) (Nat.le_of_ble_eq_true rfl) ?_
  refine mh_mxI C rfl rfl hRm (by omega) (Nat.le_of_ble_eq_true rfl) ?_
  refine mh_tI C rfl hf (fun c10 hf => ?_)
  exact mh_return C rfl (by omega) (by omega) rfl hf
def bX6_beginsRestBy_0 (N : Nat)  (v0 : Nat) (v1 : Int32) (v2 : Int32) (c : mm_C) : mR Unit :=
  Option.bind (gR c v0 6 6) fun x1 => Option.bind (gR c x1 3 6) fun x2 => Option.bind (aR (.object "CloudTakes$Shot") c x2 v1) fun x3 => cV 7 x3 c (fX7_place N x3 c) fun r4 c5 => Option.bind (gR c5 v0 6 12) fun x6 => Option.bind (aI c5 x6 (((v2 &&& (((1 : Int32) <<< (v1 &&& 31)) ^^^ (-1 : Int32))) * (2 : Int32)) + r4)) fun x7 => Option.bind (gI c5 x3 7 2) fun x8 => if (x7 - x8) < 0 then (some (.inl (), c5)) else (Option.bind (gI c5 v0 6 8) fun x9 => if (x7 - x8) ≤ x9 then (Option.bind (gR c5 v0 6 10) fun x10 => Option.bind (aR (.array .int) c5 x10 v1) fun x11 => Option.bind (aI c5 x11 (x7 - x8)) fun x12 => if ¬ r4 = 0 then (bX6_beginsRestBy_87 N  v0 x12 ((v2 * (2 : Int32)) + r4) (v2 * (2 : Int32)) (0 : Int32) c5) else (bX6_beginsRestBy_87 N  v0 x12 ((v2 * (2 : Int32)) + r4) (v2 * (2 : Int32)) (1 : Int32) c5)) else (some (.inl (), c5)))
set_option maxRecDepth 100000 in
theorem wX6_beginsRestBy_0 {Z : mm_Z} {X : mm_T} {k w mc ms d n N : Nat} {Q : mm_O → mm_H → Prop} (C : mm_Ok Z qX6_beginsRestBy X) (hRm : mt_R X = mm_rm d mc ms) (hd : 2 ≤ d) (hn : n + 1 < 1000000) (hk : k + 1 ≤ mc) (hw : w + 6 ≤ ms) {v0 : Nat} {v1 : Int32} {v2 : Int32} {c : mm_C} (hf : hO 0 ovU n (bX6_beginsRestBy_0 N  v0 v1 v2 c) Q) : mG Z qX6_beginsRestBy X k w mc ms Q (0, [(0, .ref v0), (1, .int v1), (2, .int v2)], [], (n, c)) := by
  unfold bX6_beginsRestBy_0 at hf
  refine mg_aload_n C rfl rfl ?_
  refine mh_gR C rfl rfl rfl (by decide) hf (fun x1 hf => ?_)
  refine mh_gR C rfl rfl rfl (by decide) hf (fun x2 hf => ?_)
  refine mg_iload_n C rfl rfl ?_
  refine mh_aR (ti := 4) C rfl rfl rfl hf (fun x3 hf => ?_)
  refine mg_astore_n (lv' := [(0, .ref v0), (1, .int v1), (2, .int v2), (3, .ref x3)]) C rfl (Nat.le_of_ble_eq_true rfl) rfl ?_
  refine mg_aload_n C rfl rfl ?_
  refine mh_cVI (M' := qX7_place) C rfl rfl aX7_place iX7_place sX7_place hRm (by omega) (by decide) (by omega) (by omega) rfl rfl rfl (Nat.le_of_ble_eq_true rfl) rfl hf (fun hs => wX7_place (by omega) (by omega) hs) (fun r4 c5 hf => ?_)
  refine mg_istore (lv' := [(0, .ref v0), (1, .int v1), (2, .int v2), (3, .ref x3), (4, .int r4)]) C rfl (Nat.le_of_ble_eq_true rfl) rfl ?_
  refine mg_aload_n C rfl rfl ?_
  refine mh_gR C rfl rfl rfl (by decide) hf (fun x6 hf => ?_)
  refine mg_iload_n C rfl rfl ?_
  refine mg_iconst (v := 1) C rfl (by decide) ?_
  refine mg_iload_n C rfl rfl ?_
  refine mg_ishl C rfl ?_
  refine mg_iconst (v := (-1)) C rfl (by decide) ?_
  refine mg_ixor C rfl ?_
  refine mg_iand C rfl ?_
  refine mg_iconst (v := 2) C rfl (by decide) ?_
  refine mg_imul C rfl ?_
  refine mg_iload C rfl rfl ?_
  refine mg_iadd C rfl ?_
  refine mh_aI C rfl hf (fun x7 hf => ?_)
  refine mg_aload_n C rfl rfl ?_
  refine mh_gI C rfl rfl rfl (by decide) hf (fun x8 hf => ?_)
  refine mg_isub C rfl ?_
  refine mg_istore (lv' := [(0, .ref v0), (1, .int v1), (2, .int v2), (3, .ref x3), (4, .int r4), (5, .int (x7 - x8))]) C rfl (Nat.le_of_ble_eq_true rfl) rfl ?_
  refine mg_iload C rfl rfl ?_
  refine mh_if_lt C rfl hf (fun e_42 hf => ?_) (fun e_42 hf => ?_)
  · exact mh_return C rfl (by omega) (by omega) rfl hf
  · refine mg_iload C rfl rfl ?_
    refine mg_aload_n C rfl rfl ?_
    refine mh_gI C rfl rfl rfl (by decide) hf (fun x9 hf => ?_)
    refine mh_icmp_le C rfl hf (fun e_51 hf => ?_) (fun e_51 hf => ?_)
    · refine mg_aload_n C rfl rfl ?_
      refine mh_gR C rfl rfl rfl (by decide) hf (fun x10 hf => ?_)
      refine mg_iload_n C rfl rfl ?_
      refine mh_aR (ti := 7) C rfl rfl rfl hf (fun x11 hf => ?_)
      refine mg_iload C rfl rfl ?_
      refine mh_aI C rfl hf (fun x12 hf => ?_)
      refine mg_istore (lv' := [(0, .ref v0), (1, .int v1), (2, .int v2), (3, .ref x3), (4, .int r4), (5, .int (x7 - x8)), (6, .int x12)]) C rfl (Nat.le_of_ble_eq_true rfl) rfl ?_
      refine mg_iload_n C rfl rfl ?_
      refine mg_iconst (v := 2) C rfl (by decide) ?_
      refine mg_imul C rfl ?_
      refine mg_iload C rfl rfl ?_
      refine mg_iadd C rfl ?_
      refine mg_istore (lv' := [(0, .ref v0), (1, .int v1), (2, .int v2), (3, .ref x3), (4, .int r4), (5, .int (x7 - x8)), (6, .int x12), (7, .int ((v2 * (2 : Int32)) + r4))]) C rfl (Nat.le_of_ble_eq_true rfl) rfl ?_
      refine mg_iload_n C rfl rfl ?_
      refine mg_iconst (v := 2) C rfl (by decide) ?_
      refine mg_imul C rfl ?_
      refine mg_iload C rfl rfl ?_
      refine mh_if_ne C rfl hf (fun e_79 hf => ?_) (fun e_79 hf => ?_)
      · refine mg_iconst (v := 0) C rfl (by decide) ?_
        refine mg_sub (lv' := [(0, .ref v0), (6, .int x12), (7, .int ((v2 * (2 : Int32)) + r4))]) (by simp) ?_
        exact wX6_beginsRestBy_87 C hRm hd hn hk hw hf
      · refine mg_iconst (v := 1) C rfl (by decide) ?_
        refine mg_goto C rfl ?_
        refine mg_sub (lv' := [(0, .ref v0), (6, .int x12), (7, .int ((v2 * (2 : Int32)) + r4))]) (by simp) ?_
        exact wX6_beginsRestBy_87 C hRm hd hn hk hw hf
    · exact mh_return C rfl (by omega) (by omega) rfl hf
def fX6_beginsRestBy (N : Nat) (v0 : Nat) (v1 : Int32) (v2 : Int32) (c : mm_C) : mR Unit := bX6_beginsRestBy_0 N v0 v1 v2 c
set_option maxRecDepth 100000 in
theorem wX6_beginsRestBy {Z : mm_Z} {d n N : Nat} (hd : 2 ≤ d) (hn : n + 1 < 1000000) {v0 : Nat} {v1 : Int32} {v2 : Int32} {c : mm_C} (hs : (fX6_beginsRestBy N v0 v1 v2 c).isSome = true) : mC Z qX6_beginsRestBy d 1 6 [.ref v0, .int v1, .int v2] (n, c) (mP 0 ovU n (fX6_beginsRestBy N v0 v1 v2 c)) := by
  refine mC_of gX6_beginsRestBy (by decide +kernel) (Nat.le_of_ble_eq_true rfl) fun X C hRm => ?_
  have hf := hO_mP 0 ovU n hs
  have hk : 0 + 1 ≤ 1 := Nat.le_of_ble_eq_true rfl
  have hw : 0 + 6 ≤ 6 := Nat.le_of_ble_eq_true rfl
  show mG _ _ _ _ _ _ _ _ (0, [(0, .ref v0), (1, .int v1), (2, .int v2)], [], (n, c))
  exact wX6_beginsRestBy_0 C hRm hd hn hk hw hf
def bX6_latestFor_143 (N : Nat)  (v0 : Nat) (v1 : Int32) (v2 : Int32) (c : mm_C) : mR Int32 :=
  Option.bind (gR c v0 6 12) fun x1 => Option.bind (aI c x1 ((v1 * (2 : Int32)) + v2)) fun x2 => some (.inl x2, c)
set_option maxRecDepth 100000 in
theorem wX6_latestFor_143 {Z : mm_Z} {X : mm_T} {k w mc ms d n N : Nat} {Q : mm_O → mm_H → Prop} (C : mm_Ok Z qX6_latestFor X) (hRm : mt_R X = mm_rm d mc ms) (hd : 5 ≤ d) (hn : n + 1 < 1000000) (hk : k + 1 ≤ mc) (hw : w + 6 ≤ ms) {v0 : Nat} {v1 : Int32} {v2 : Int32} {c : mm_C} (hf : hO 0 ovI n (bX6_latestFor_143 N  v0 v1 v2 c) Q) : mG Z qX6_latestFor X k w mc ms Q (143, [(0, .ref v0), (1, .int v1), (2, .int v2)], [], (n, c)) := by
  unfold bX6_latestFor_143 at hf
  refine mg_aload_n C rfl rfl ?_
  refine mh_gR C rfl rfl rfl (by decide) hf (fun x1 hf => ?_)
  refine mg_iload_n C rfl rfl ?_
  refine mg_iconst (v := 2) C rfl (by decide) ?_
  refine mg_imul C rfl ?_
  refine mg_iload_n C rfl rfl ?_
  refine mg_iadd C rfl ?_
  refine mh_aI C rfl hf (fun x2 hf => ?_)
  exact mh_ireturn C rfl (by omega) (by omega) rfl hf
def bX6_latestFor_137 (N : Nat)  (k44 : Nat → Int32 → Int32 → Int32 → mm_C → mR Int32) (v0 : Nat) (v1 : Int32) (v2 : Int32) (v4 : Int32) (c : mm_C) : mR Int32 :=
  k44 v0 v1 v2 (v4 + 1) c
set_option maxRecDepth 100000 in
theorem wX6_latestFor_137 {Z : mm_Z} {X : mm_T} {k w mc ms d n N : Nat} {Q : mm_O → mm_H → Prop} (C : mm_Ok Z qX6_latestFor X) (hRm : mt_R X = mm_rm d mc ms) (hd : 5 ≤ d) (hn : n + 1 < 1000000) (hk : k + 1 ≤ mc) (hw : w + 6 ≤ ms) {k44 : Nat → Int32 → Int32 → Int32 → mm_C → mR Int32} (hk44 : ∀ (v0 : Nat) (v1 : Int32) (v2 : Int32) (v4 : Int32) (c : mm_C), hO 0 ovI n (k44 v0 v1 v2 v4 c) Q → mG Z qX6_latestFor X k w mc ms Q (44, [(0, .ref v0), (1, .int v1), (2, .int v2), (4, .int v4)], [], (n, c))) {v0 : Nat} {v1 : Int32} {v2 : Int32} {v4 : Int32} {c : mm_C} (hf : hO 0 ovI n (bX6_latestFor_137 N  k44 v0 v1 v2 v4 c) Q) : mG Z qX6_latestFor X k w mc ms Q (137, [(0, .ref v0), (1, .int v1), (2, .int v2), (4, .int v4)], [], (n, c)) := by
  unfold bX6_latestFor_137 at hf
  refine mg_iinc (lv' := [(0, .ref v0), (1, .int v1), (2, .int v2), (4, .int (v4 + 1))]) C rfl (Nat.le_of_ble_eq_true rfl) rfl (show _ + Int32.ofInt 1 = _ + 1 by congr 1) rfl ?_
  refine mg_goto C rfl ?_
  exact hk44 _ _ _ _ _ hf
def bX6_latestFor_131 (N : Nat)  (k44 : Nat → Int32 → Int32 → Int32 → mm_C → mR Int32) (k88 : Nat → Int32 → Int32 → Int32 → Int32 → mm_C → mR Int32) (v0 : Nat) (v1 : Int32) (v2 : Int32) (v4 : Int32) (v5 : Int32) (c : mm_C) : mR Int32 :=
  k88 v0 v1 v2 v4 (v5 + 1) c
set_option maxRecDepth 100000 in
theorem wX6_latestFor_131 {Z : mm_Z} {X : mm_T} {k w mc ms d n N : Nat} {Q : mm_O → mm_H → Prop} (C : mm_Ok Z qX6_latestFor X) (hRm : mt_R X = mm_rm d mc ms) (hd : 5 ≤ d) (hn : n + 1 < 1000000) (hk : k + 1 ≤ mc) (hw : w + 6 ≤ ms) {k44 : Nat → Int32 → Int32 → Int32 → mm_C → mR Int32} (hk44 : ∀ (v0 : Nat) (v1 : Int32) (v2 : Int32) (v4 : Int32) (c : mm_C), hO 0 ovI n (k44 v0 v1 v2 v4 c) Q → mG Z qX6_latestFor X k w mc ms Q (44, [(0, .ref v0), (1, .int v1), (2, .int v2), (4, .int v4)], [], (n, c))) {k88 : Nat → Int32 → Int32 → Int32 → Int32 → mm_C → mR Int32} (hk88 : ∀ (v0 : Nat) (v1 : Int32) (v2 : Int32) (v4 : Int32) (v5 : Int32) (c : mm_C), hO 0 ovI n (k88 v0 v1 v2 v4 v5 c) Q → mG Z qX6_latestFor X k w mc ms Q (88, [(0, .ref v0), (1, .int v1), (2, .int v2), (4, .int v4), (5, .int v5)], [], (n, c))) {v0 : Nat} {v1 : Int32} {v2 : Int32} {v4 : Int32} {v5 : Int32} {c : mm_C} (hf : hO 0 ovI n (bX6_latestFor_131 N  k44 k88 v0 v1 v2 v4 v5 c) Q) : mG Z qX6_latestFor X k w mc ms Q (131, [(0, .ref v0), (1, .int v1), (2, .int v2), (4, .int v4), (5, .int v5)], [], (n, c)) := by
  unfold bX6_latestFor_131 at hf
  refine mg_iinc (lv' := [(0, .ref v0), (1, .int v1), (2, .int v2), (4, .int v4), (5, .int (v5 + 1))]) C rfl (Nat.le_of_ble_eq_true rfl) rfl (show _ + Int32.ofInt 1 = _ + 1 by congr 1) rfl ?_
  refine mg_goto C rfl ?_
  exact hk88 _ _ _ _ _ _ hf
def bX6_latestFor_88 (N : Nat)  (k44 : Nat → Int32 → Int32 → Int32 → mm_C → mR Int32) (k88 : Nat → Int32 → Int32 → Int32 → Int32 → mm_C → mR Int32) (v0 : Nat) (v1 : Int32) (v2 : Int32) (v4 : Int32) (v5 : Int32) (c : mm_C) : mR Int32 :=
  Option.bind (gR c v0 6 6) fun x1 => Option.bind (gI c x1 3 3) fun x2 => if x2 ≤ v5 then (bX6_latestFor_137 N  k44 v0 v1 v2 v4 c) else (if (v4 &&& ((1 : Int32) <<< (v5 &&& 31))) = 0 then (bX6_latestFor_131 N  k44 k88 v0 v1 v2 v4 v5 c) else (cV 6 v0 c (fX6_isFree N v0 v5 (v4 ^^^ (-1 : Int32)) c) fun r3 c4 => if r3 = 0 then (bX6_latestFor_131 N  k44 k88 v0 v1 v2 v4 v5 c4) else (cV 6 v0 c4 (fX6_beginsRestBy N v0 v5 v4 c4) fun (_ : Unit) c5 => bX6_latestFor_131 N  k44 k88 v0 v1 v2 v4 v5 c5)))
set_option maxRecDepth 100000 in
theorem wX6_latestFor_88 {Z : mm_Z} {X : mm_T} {k w mc ms d n N : Nat} {Q : mm_O → mm_H → Prop} (C : mm_Ok Z qX6_latestFor X) (hRm : mt_R X = mm_rm d mc ms) (hd : 5 ≤ d) (hn : n + 1 < 1000000) (hk : k + 1 ≤ mc) (hw : w + 6 ≤ ms) {k44 : Nat → Int32 → Int32 → Int32 → mm_C → mR Int32} (hk44 : ∀ (v0 : Nat) (v1 : Int32) (v2 : Int32) (v4 : Int32) (c : mm_C), hO 0 ovI n (k44 v0 v1 v2 v4 c) Q → mG Z qX6_latestFor X k w mc ms Q (44, [(0, .ref v0), (1, .int v1), (2, .int v2), (4, .int v4)], [], (n, c))) {k88 : Nat → Int32 → Int32 → Int32 → Int32 → mm_C → mR Int32} (hk88 : ∀ (v0 : Nat) (v1 : Int32) (v2 : Int32) (v4 : Int32) (v5 : Int32) (c : mm_C), hO 0 ovI n (k88 v0 v1 v2 v4 v5 c) Q → mG Z qX6_latestFor X k w mc ms Q (88, [(0, .ref v0), (1, .int v1), (2, .int v2), (4, .int v4), (5, .int v5)], [], (n, c))) {v0 : Nat} {v1 : Int32} {v2 : Int32} {v4 : Int32} {v5 : Int32} {c : mm_C} (hf : hO 0 ovI n (bX6_latestFor_88 N  k44 k88 v0 v1 v2 v4 v5 c) Q) : mG Z qX6_latestFor X k w mc ms Q (88, [(0, .ref v0), (1, .int v1), (2, .int v2), (4, .int v4), (5, .int v5)], [], (n, c)) := by
  unfold bX6_latestFor_88 at hf
  refine mg_iload C rfl rfl ?_
  refine mg_aload_n C rfl rfl ?_
  refine mh_gR C rfl rfl rfl (by decide) hf (fun x1 hf => ?_)
  refine mh_gI C rfl rfl rfl (by decide) hf (fun x2 hf => ?_)
  refine mh_icmp_ge C rfl hf (fun e_97 hf => ?_) (fun e_97 hf => ?_)
  · refine mg_sub (lv' := [(0, .ref v0), (1, .int v1), (2, .int v2), (4, .int v4)]) (by simp) ?_
    exact wX6_latestFor_137 C hRm hd hn hk hw hk44 hf
  · refine mg_iload C rfl rfl ?_
    refine mg_iconst (v := 1) C rfl (by decide) ?_
    refine mg_iload C rfl rfl ?_
    refine mg_ishl C rfl ?_
    refine mg_iand C rfl ?_
    refine mh_if_eq C rfl hf (fun e_107 hf => ?_) (fun e_107 hf => ?_)
    · exact wX6_latestFor_131 C hRm hd hn hk hw hk44 hk88 hf
    · refine mg_aload_n C rfl rfl ?_
      refine mg_iload C rfl rfl ?_
      refine mg_iload C rfl rfl ?_
      refine mg_iconst (v := (-1)) C rfl (by decide) ?_
      refine mg_ixor C rfl ?_
      refine mh_cVI (M' := qX6_isFree) C rfl rfl aX6_isFree iX6_isFree sX6_isFree hRm (by omega) (by decide) (by omega) (by omega) rfl rfl rfl (Nat.le_of_ble_eq_true rfl) rfl hf (fun hs => wX6_isFree (by omega) (by omega) hs) (fun r3 c4 hf => ?_)
      refine mh_if_eq C rfl hf (fun e_120 hf => ?_) (fun e_120 hf => ?_)
      · exact wX6_latestFor_131 C hRm hd hn hk hw hk44 hk88 hf
      · refine mg_aload_n C rfl rfl ?_
        refine mg_iload C rfl rfl ?_
        refine mg_iload C rfl rfl ?_
        refine mh_cVU (M' := qX6_beginsRestBy) C rfl rfl aX6_beginsRestBy iX6_beginsRestBy sX6_beginsRestBy hRm (by omega) (by decide) (by omega) (by omega) rfl rfl rfl (Nat.le_of_ble_eq_true rfl) rfl hf (fun hs => wX6_beginsRestBy (by omega) (by omega) hs) (fun c5 hf => ?_)
        exact wX6_latestFor_131 C hRm hd hn hk hw hk44 hk88 hf
def lX6_latestFor_88 (N : Nat)  (k44 : Nat → Int32 → Int32 → Int32 → mm_C → mR Int32) : Nat → Nat → Int32 → Int32 → Int32 → Int32 → mm_C → mR Int32
  | 0, _, _, _, _, _, _ => none
  | m + 1, v0, v1, v2, v4, v5, c => bX6_latestFor_88 N  k44 (lX6_latestFor_88 N  k44 m) v0 v1 v2 v4 v5 c
theorem WX6_latestFor_88 {Z : mm_Z} {X : mm_T} {k w mc ms d n N : Nat} {Q : mm_O → mm_H → Prop} (C : mm_Ok Z qX6_latestFor X) (hRm : mt_R X = mm_rm d mc ms) (hd : 5 ≤ d) (hn : n + 1 < 1000000) (hk : k + 1 ≤ mc) (hw : w + 6 ≤ ms) {k44 : Nat → Int32 → Int32 → Int32 → mm_C → mR Int32} (hk44 : ∀ (v0 : Nat) (v1 : Int32) (v2 : Int32) (v4 : Int32) (c : mm_C), hO 0 ovI n (k44 v0 v1 v2 v4 c) Q → mG Z qX6_latestFor X k w mc ms Q (44, [(0, .ref v0), (1, .int v1), (2, .int v2), (4, .int v4)], [], (n, c))) : ∀ (m : Nat) {v0 : Nat} {v1 : Int32} {v2 : Int32} {v4 : Int32} {v5 : Int32} {c : mm_C} (hf : hO 0 ovI n (lX6_latestFor_88 N  k44 m v0 v1 v2 v4 v5 c) Q), mG Z qX6_latestFor X k w mc ms Q (88, [(0, .ref v0), (1, .int v1), (2, .int v2), (4, .int v4), (5, .int v5)], [], (n, c)) := by
  intro m
  induction m with
  | zero => intro v0 v1 v2 v4 v5 c hf; exact absurd hf hO_none
  | succ m ih => intro v0 v1 v2 v4 v5 c hf; exact wX6_latestFor_88 C hRm hd hn hk hw hk44 (fun v0 v1 v2 v4 v5 c hf => ih hf) hf
def bX6_latestFor_44 (N : Nat)  (k44 : Nat → Int32 → Int32 → Int32 → mm_C → mR Int32) (v0 : Nat) (v1 : Int32) (v2 : Int32) (v4 : Int32) (c : mm_C) : mR Int32 :=
  if (256 : Int32) ≤ v4 then (bX6_latestFor_143 N  v0 v1 v2 c) else (if ¬ (v4 &&& (v1 ^^^ (-1 : Int32))) = 0 then (bX6_latestFor_137 N  k44 v0 v1 v2 v4 c) else (Option.bind (gR c v0 6 12) fun x1 => Option.bind (tI c x1 ((v4 * (2 : Int32)) + (0 : Int32)) (-1 : Int32)) fun c2 => Option.bind (gR c2 v0 6 12) fun x3 => Option.bind (tI c2 x3 ((v4 * (2 : Int32)) + (1 : Int32)) (-1 : Int32)) fun c4 => lX6_latestFor_88 N  k44 N v0 v1 v2 v4 (0 : Int32) c4))
set_option maxRecDepth 100000 in
theorem wX6_latestFor_44 {Z : mm_Z} {X : mm_T} {k w mc ms d n N : Nat} {Q : mm_O → mm_H → Prop} (C : mm_Ok Z qX6_latestFor X) (hRm : mt_R X = mm_rm d mc ms) (hd : 5 ≤ d) (hn : n + 1 < 1000000) (hk : k + 1 ≤ mc) (hw : w + 6 ≤ ms) {k44 : Nat → Int32 → Int32 → Int32 → mm_C → mR Int32} (hk44 : ∀ (v0 : Nat) (v1 : Int32) (v2 : Int32) (v4 : Int32) (c : mm_C), hO 0 ovI n (k44 v0 v1 v2 v4 c) Q → mG Z qX6_latestFor X k w mc ms Q (44, [(0, .ref v0), (1, .int v1), (2, .int v2), (4, .int v4)], [], (n, c))) {v0 : Nat} {v1 : Int32} {v2 : Int32} {v4 : Int32} {c : mm_C} (hf : hO 0 ovI n (bX6_latestFor_44 N  k44 v0 v1 v2 v4 c) Q) : mG Z qX6_latestFor X k w mc ms Q (44, [(0, .ref v0), (1, .int v1), (2, .int v2), (4, .int v4)], [], (n, c)) := by
  unfold bX6_latestFor_44 at hf
  refine mg_iload C rfl rfl ?_
  refine mg_sipush (v := 256) C rfl (by decide) ?_
  refine mh_icmp_ge C rfl hf (fun e_49 hf => ?_) (fun e_49 hf => ?_)
  · refine mg_sub (lv' := [(0, .ref v0), (1, .int v1), (2, .int v2)]) (by simp) ?_
    exact wX6_latestFor_143 C hRm hd hn hk hw hf
  · refine mg_iload C rfl rfl ?_
    refine mg_iload_n C rfl rfl ?_
    refine mg_iconst (v := (-1)) C rfl (by decide) ?_
    refine mg_ixor C rfl ?_
    refine mg_iand C rfl ?_
    refine mh_if_ne C rfl hf (fun e_58 hf => ?_) (fun e_58 hf => ?_)
    · exact wX6_latestFor_137 C hRm hd hn hk hw hk44 hf
    · refine mg_aload_n C rfl rfl ?_
      refine mh_gR C rfl rfl rfl (by decide) hf (fun x1 hf => ?_)
      refine mg_iload C rfl rfl ?_
      refine mg_iconst (v := 2) C rfl (by decide) ?_
      refine mg_imul C rfl ?_
      refine mg_iconst (v := 0) C rfl (by decide) ?_
      refine mg_iadd C rfl ?_
      refine mg_iconst (v := (-1)) C rfl (by decide) ?_
      refine mh_tI C rfl hf (fun c2 hf => ?_)
      refine mg_aload_n C rfl rfl ?_
      refine mh_gR C rfl rfl rfl (by decide) hf (fun x3 hf => ?_)
      refine mg_iload C rfl rfl ?_
      refine mg_iconst (v := 2) C rfl (by decide) ?_
      refine mg_imul C rfl ?_
      refine mg_iconst (v := 1) C rfl (by decide) ?_
      refine mg_iadd C rfl ?_
      refine mg_iconst (v := (-1)) C rfl (by decide) ?_
      refine mh_tI C rfl hf (fun c4 hf => ?_)
      refine mg_iconst (v := 0) C rfl (by decide) ?_
      refine mg_istore (lv' := [(0, .ref v0), (1, .int v1), (2, .int v2), (4, .int v4), (5, .int (0 : Int32))]) C rfl (Nat.le_of_ble_eq_true rfl) rfl ?_
      exact WX6_latestFor_88 C hRm hd hn hk hw hk44 N hf
def lX6_latestFor_44 (N : Nat)  : Nat → Nat → Int32 → Int32 → Int32 → mm_C → mR Int32
  | 0, _, _, _, _, _ => none
  | m + 1, v0, v1, v2, v4, c => bX6_latestFor_44 N  (lX6_latestFor_44 N  m) v0 v1 v2 v4 c
theorem WX6_latestFor_44 {Z : mm_Z} {X : mm_T} {k w mc ms d n N : Nat} {Q : mm_O → mm_H → Prop} (C : mm_Ok Z qX6_latestFor X) (hRm : mt_R X = mm_rm d mc ms) (hd : 5 ≤ d) (hn : n + 1 < 1000000) (hk : k + 1 ≤ mc) (hw : w + 6 ≤ ms) : ∀ (m : Nat) {v0 : Nat} {v1 : Int32} {v2 : Int32} {v4 : Int32} {c : mm_C} (hf : hO 0 ovI n (lX6_latestFor_44 N  m v0 v1 v2 v4 c) Q), mG Z qX6_latestFor X k w mc ms Q (44, [(0, .ref v0), (1, .int v1), (2, .int v2), (4, .int v4)], [], (n, c)) := by
  intro m
  induction m with
  | zero => intro v0 v1 v2 v4 c hf; exact absurd hf hO_none
  | succ m ih => intro v0 v1 v2 v4 c hf; exact wX6_latestFor_44 C hRm hd hn hk hw (fun v0 v1 v2 v4 c hf => ih hf) hf
def bX6_latestFor_27 (N : Nat)  (v0 : Nat) (v1 : Int32) (v2 : Int32) (v3 : Int32) (c : mm_C) : mR Int32 :=
  Option.bind (gR c v0 6 12) fun x1 => Option.bind (tI c x1 (0 : Int32) v3) fun c2 => Option.bind (gR c2 v0 6 12) fun x3 => Option.bind (tI c2 x3 (1 : Int32) v3) fun c4 => lX6_latestFor_44 N  N v0 v1 v2 (1 : Int32) c4
set_option maxRecDepth 100000 in
theorem wX6_latestFor_27 {Z : mm_Z} {X : mm_T} {k w mc ms d n N : Nat} {Q : mm_O → mm_H → Prop} (C : mm_Ok Z qX6_latestFor X) (hRm : mt_R X = mm_rm d mc ms) (hd : 5 ≤ d) (hn : n + 1 < 1000000) (hk : k + 1 ≤ mc) (hw : w + 6 ≤ ms) {v0 : Nat} {v1 : Int32} {v2 : Int32} {v3 : Int32} {c : mm_C} (hf : hO 0 ovI n (bX6_latestFor_27 N  v0 v1 v2 v3 c) Q) : mG Z qX6_latestFor X k w mc ms Q (27, [(0, .ref v0), (1, .int v1), (2, .int v2), (3, .int v3)], [], (n, c)) := by
  unfold bX6_latestFor_27 at hf
  refine mg_aload_n C rfl rfl ?_
  refine mh_gR C rfl rfl rfl (by decide) hf (fun x1 hf => ?_)
  refine mg_iconst (v := 0) C rfl (by decide) ?_
  refine mg_iload_n C rfl rfl ?_
  refine mh_tI C rfl hf (fun c2 hf => ?_)
  refine mg_aload_n C rfl rfl ?_
  refine mh_gR C rfl rfl rfl (by decide) hf (fun x3 hf => ?_)
  refine mg_iconst (v := 1) C rfl (by decide) ?_
  refine mg_iload_n C rfl rfl ?_
  refine mh_tI C rfl hf (fun c4 hf => ?_)
  refine mg_iconst (v := 1) C rfl (by decide) ?_
  refine mg_istore (lv' := [(0, .ref v0), (1, .int v1), (2, .int v2), (3, .int v3), (4, .int (1 : Int32))]) C rfl (Nat.le_of_ble_eq_true rfl) rfl ?_
  refine mg_sub (lv' := [(0, .ref v0), (1, .int v1), (2, .int v2), (4, .int (1 : Int32))]) (by simp) ?_
  exact WX6_latestFor_44 C hRm hd hn hk hw N hf
def bX6_latestFor_3 (N : Nat)  (k3 : Nat → Int32 → Int32 → Int32 → Int32 → mm_C → mR Int32) (v0 : Nat) (v1 : Int32) (v2 : Int32) (v3 : Int32) (v4 : Int32) (c : mm_C) : mR Int32 :=
  Option.bind (gR c v0 6 6) fun x1 => Option.bind (gI c x1 3 3) fun x2 => if x2 ≤ v4 then (bX6_latestFor_27 N  v0 v1 v2 v3 c) else (cV 6 v0 c (fX6_findLastChances N v0 v4 c) fun (_ : Unit) c3 => k3 v0 v1 v2 v3 (v4 + 1) c3)
set_option maxRecDepth 100000 in
theorem wX6_latestFor_3 {Z : mm_Z} {X : mm_T} {k w mc ms d n N : Nat} {Q : mm_O → mm_H → Prop} (C : mm_Ok Z qX6_latestFor X) (hRm : mt_R X = mm_rm d mc ms) (hd : 5 ≤ d) (hn : n + 1 < 1000000) (hk : k + 1 ≤ mc) (hw : w + 6 ≤ ms) {k3 : Nat → Int32 → Int32 → Int32 → Int32 → mm_C → mR Int32} (hk3 : ∀ (v0 : Nat) (v1 : Int32) (v2 : Int32) (v3 : Int32) (v4 : Int32) (c : mm_C), hO 0 ovI n (k3 v0 v1 v2 v3 v4 c) Q → mG Z qX6_latestFor X k w mc ms Q (3, [(0, .ref v0), (1, .int v1), (2, .int v2), (3, .int v3), (4, .int v4)], [], (n, c))) {v0 : Nat} {v1 : Int32} {v2 : Int32} {v3 : Int32} {v4 : Int32} {c : mm_C} (hf : hO 0 ovI n (bX6_latestFor_3 N  k3 v0 v1 v2 v3 v4 c) Q) : mG Z qX6_latestFor X k w mc ms Q (3, [(0, .ref v0), (1, .int v1), (2, .int v2), (3, .int v3), (4, .int v4)], [], (n, c)) := by
  unfold bX6_latestFor_3 at hf
  refine mg_iload C rfl rfl ?_
  refine mg_aload_n C rfl rfl ?_
  refine mh_gR C rfl rfl rfl (by decide) hf (fun x1 hf => ?_)
  refine mh_gI C rfl rfl rfl (by decide) hf (fun x2 hf => ?_)
  refine mh_icmp_ge C rfl hf (fun e_12 hf => ?_) (fun e_12 hf => ?_)
  · refine mg_sub (lv' := [(0, .ref v0), (1, .int v1), (2, .int v2), (3, .int v3)]) (by simp) ?_
    exact wX6_latestFor_27 C hRm hd hn hk hw hf
  · refine mg_aload_n C rfl rfl ?_
    refine mg_iload C rfl rfl ?_
    refine mh_cVU (M' := qX6_findLastChances) C rfl rfl aX6_findLastChances iX6_findLastChances sX6_findLastChances hRm (by omega) (by decide) (by omega) (by omega) rfl rfl rfl (Nat.le_of_ble_eq_true rfl) rfl hf (fun hs => wX6_findLastChances (by omega) (by omega) hs) (fun c3 hf => ?_)
    refine mg_iinc (lv' := [(0, .ref v0), (1, .int v1), (2, .int v2), (3, .int v3), (4, .int (v4 + 1))]) C rfl (Nat.le_of_ble_eq_true rfl) rfl (show _ + Int32.ofInt 1 = _ + 1 by congr 1) rfl ?_
    refine mg_goto C rfl ?_
    exact hk3 _ _ _ _ _ _ hf
def lX6_latestFor_3 (N : Nat)  : Nat → Nat → Int32 → Int32 → Int32 → Int32 → mm_C → mR Int32
  | 0, _, _, _, _, _, _ => none
  | m + 1, v0, v1, v2, v3, v4, c => bX6_latestFor_3 N  (lX6_latestFor_3 N  m) v0 v1 v2 v3 v4 c
theorem WX6_latestFor_3 {Z : mm_Z} {X : mm_T} {k w mc ms d n N : Nat} {Q : mm_O → mm_H → Prop} (C : mm_Ok Z qX6_latestFor X) (hRm : mt_R X = mm_rm d mc ms) (hd : 5 ≤ d) (hn : n + 1 < 1000000) (hk : k + 1 ≤ mc) (hw : w + 6 ≤ ms) : ∀ (m : Nat) {v0 : Nat} {v1 : Int32} {v2 : Int32} {v3 : Int32} {v4 : Int32} {c : mm_C} (hf : hO 0 ovI n (lX6_latestFor_3 N  m v0 v1 v2 v3 v4 c) Q), mG Z qX6_latestFor X k w mc ms Q (3, [(0, .ref v0), (1, .int v1), (2, .int v2), (3, .int v3), (4, .int v4)], [], (n, c)) := by
  intro m
  induction m with
  | zero => intro v0 v1 v2 v3 v4 c hf; exact absurd hf hO_none
  | succ m ih => intro v0 v1 v2 v3 v4 c hf; exact wX6_latestFor_3 C hRm hd hn hk hw (fun v0 v1 v2 v3 v4 c hf => ih hf) hf
def bX6_latestFor_0 (N : Nat)  (v0 : Nat) (v1 : Int32) (v2 : Int32) (v3 : Int32) (c : mm_C) : mR Int32 :=
  lX6_latestFor_3 N  N v0 v1 v2 v3 (0 : Int32) c
set_option maxRecDepth 100000 in
theorem wX6_latestFor_0 {Z : mm_Z} {X : mm_T} {k w mc ms d n N : Nat} {Q : mm_O → mm_H → Prop} (C : mm_Ok Z qX6_latestFor X) (hRm : mt_R X = mm_rm d mc ms) (hd : 5 ≤ d) (hn : n + 1 < 1000000) (hk : k + 1 ≤ mc) (hw : w + 6 ≤ ms) {v0 : Nat} {v1 : Int32} {v2 : Int32} {v3 : Int32} {c : mm_C} (hf : hO 0 ovI n (bX6_latestFor_0 N  v0 v1 v2 v3 c) Q) : mG Z qX6_latestFor X k w mc ms Q (0, [(0, .ref v0), (1, .int v1), (2, .int v2), (3, .int v3)], [], (n, c)) := by
  unfold bX6_latestFor_0 at hf
  refine mg_iconst (v := 0) C rfl (by decide) ?_
  refine mg_istore (lv' := [(0, .ref v0), (1, .int v1), (2, .int v2), (3, .int v3), (4, .int (0 : Int32))]) C rfl (Nat.le_of_ble_eq_true rfl) rfl ?_
  exact WX6_latestFor_3 C hRm hd hn hk hw N hf
def fX6_latestFor (N : Nat) (v0 : Nat) (v1 : Int32) (v2 : Int32) (v3 : Int32) (c : mm_C) : mR Int32 := bX6_latestFor_0 N v0 v1 v2 v3 c
set_option maxRecDepth 100000 in
theorem wX6_latestFor {Z : mm_Z} {d n N : Nat} (hd : 5 ≤ d) (hn : n + 1 < 1000000) {v0 : Nat} {v1 : Int32} {v2 : Int32} {v3 : Int32} {c : mm_C} (hs : (fX6_latestFor N v0 v1 v2 v3 c).isSome = true) : mC Z qX6_latestFor d 1 6 [.ref v0, .int v1, .int v2, .int v3] (n, c) (mP 0 ovI n (fX6_latestFor N v0 v1 v2 v3 c)) := by
  refine mC_of gX6_latestFor (by decide +kernel) (Nat.le_of_ble_eq_true rfl) fun X C hRm => ?_
  have hf := hO_mP 0 ovI n hs
  have hk : 0 + 1 ≤ 1 := Nat.le_of_ble_eq_true rfl
  have hw : 0 + 6 ≤ 6 := Nat.le_of_ble_eq_true rfl
  show mG _ _ _ _ _ _ _ _ (0, [(0, .ref v0), (1, .int v1), (2, .int v2), (3, .int v3)], [], (n, c))
  exact wX6_latestFor_0 C hRm hd hn hk hw hf
def bX6_firstInTime_104 (N : Nat)  (k3 : Nat → Int32 → Int32 → Int32 → Int32 → mm_C → mR Int32) (v0 : Nat) (v1 : Int32) (v2 : Int32) (v3 : Int32) (v4 : Int32) (c : mm_C) : mR Int32 :=
  k3 v0 v1 v2 v3 (v4 + 1) c
set_option maxRecDepth 100000 in
theorem wX6_firstInTime_104 {Z : mm_Z} {X : mm_T} {k w mc ms d n N : Nat} {Q : mm_O → mm_H → Prop} (C : mm_Ok Z qX6_firstInTime X) (hRm : mt_R X = mm_rm d mc ms) (hd : 2 ≤ d) (hn : n + 1 < 1000000) (hk : k + 1 ≤ mc) (hw : w + 6 ≤ ms) {k3 : Nat → Int32 → Int32 → Int32 → Int32 → mm_C → mR Int32} (hk3 : ∀ (v0 : Nat) (v1 : Int32) (v2 : Int32) (v3 : Int32) (v4 : Int32) (c : mm_C), hO 0 ovI n (k3 v0 v1 v2 v3 v4 c) Q → mG Z qX6_firstInTime X k w mc ms Q (3, [(0, .ref v0), (1, .int v1), (2, .int v2), (3, .int v3), (4, .int v4)], [], (n, c))) {v0 : Nat} {v1 : Int32} {v2 : Int32} {v3 : Int32} {v4 : Int32} {c : mm_C} (hf : hO 0 ovI n (bX6_firstInTime_104 N  k3 v0 v1 v2 v3 v4 c) Q) : mG Z qX6_firstInTime X k w mc ms Q (104, [(0, .ref v0), (1, .int v1), (2, .int v2), (3, .int v3), (4, .int v4)], [], (n, c)) := by
  unfold bX6_firstInTime_104 at hf
  refine mg_iinc (lv' := [(0, .ref v0), (1, .int v1), (2, .int v2), (3, .int v3), (4, .int (v4 + 1))]) C rfl (Nat.le_of_ble_eq_true rfl) rfl (show _ + Int32.ofInt 1 = _ + 1 by congr 1) rfl ?_
  refine mg_goto C rfl ?_
  exact hk3 _ _ _ _ _ _ hf
def bX6_firstInTime_101 (N : Nat)  (v4 : Int32) (c : mm_C) : mR Int32 :=
  some (.inl v4, c)
set_option maxRecDepth 100000 in
theorem wX6_firstInTime_101 {Z : mm_Z} {X : mm_T} {k w mc ms d n N : Nat} {Q : mm_O → mm_H → Prop} (C : mm_Ok Z qX6_firstInTime X) (hRm : mt_R X = mm_rm d mc ms) (hd : 2 ≤ d) (hn : n + 1 < 1000000) (hk : k + 1 ≤ mc) (hw : w + 6 ≤ ms) {v4 : Int32} {c : mm_C} (hf : hO 0 ovI n (bX6_firstInTime_101 N  v4 c) Q) : mG Z qX6_firstInTime X k w mc ms Q (101, [(4, .int v4)], [], (n, c)) := by
  unfold bX6_firstInTime_101 at hf
  refine mg_iload C rfl rfl ?_
  exact mh_ireturn C rfl (by omega) (by omega) rfl hf
def bX6_firstInTime_72 (N : Nat)  (k3 : Nat → Int32 → Int32 → Int32 → Int32 → mm_C → mR Int32) (v0 : Nat) (v1 : Int32) (v2 : Int32) (v3 : Int32) (v4 : Int32) (v5 : Int32) (s0 : Nat) (s1 : Int32) (s2 : Int32) (s3 : Int32) (c : mm_C) : mR Int32 :=
  cV 6 s0 c (fX6_endFrom N s0 s1 (s2 + s3) c) fun r1 c2 => Option.bind (gR c2 v0 6 12) fun x3 => Option.bind (aI c2 x3 (((v1 &&& (((1 : Int32) <<< (v4 &&& 31)) ^^^ (-1 : Int32))) * (2 : Int32)) + v5)) fun x4 => if x4 < r1 then (bX6_firstInTime_104 N  k3 v0 v1 v2 v3 v4 c2) else (bX6_firstInTime_101 N  v4 c2)
set_option maxRecDepth 100000 in
theorem wX6_firstInTime_72 {Z : mm_Z} {X : mm_T} {k w mc ms d n N : Nat} {Q : mm_O → mm_H → Prop} (C : mm_Ok Z qX6_firstInTime X) (hRm : mt_R X = mm_rm d mc ms) (hd : 2 ≤ d) (hn : n + 1 < 1000000) (hk : k + 1 ≤ mc) (hw : w + 6 ≤ ms) {k3 : Nat → Int32 → Int32 → Int32 → Int32 → mm_C → mR Int32} (hk3 : ∀ (v0 : Nat) (v1 : Int32) (v2 : Int32) (v3 : Int32) (v4 : Int32) (c : mm_C), hO 0 ovI n (k3 v0 v1 v2 v3 v4 c) Q → mG Z qX6_firstInTime X k w mc ms Q (3, [(0, .ref v0), (1, .int v1), (2, .int v2), (3, .int v3), (4, .int v4)], [], (n, c))) {v0 : Nat} {v1 : Int32} {v2 : Int32} {v3 : Int32} {v4 : Int32} {v5 : Int32} {s0 : Nat} {s1 : Int32} {s2 : Int32} {s3 : Int32} {c : mm_C} (hf : hO 0 ovI n (bX6_firstInTime_72 N  k3 v0 v1 v2 v3 v4 v5 s0 s1 s2 s3 c) Q) : mG Z qX6_firstInTime X k w mc ms Q (72, [(0, .ref v0), (1, .int v1), (2, .int v2), (3, .int v3), (4, .int v4), (5, .int v5)], [.int s3, .int s2, .int s1, .ref s0], (n, c)) := by
  unfold bX6_firstInTime_72 at hf
  refine mg_iadd C rfl ?_
  refine mh_cVI (M' := qX6_endFrom) C rfl rfl aX6_endFrom iX6_endFrom sX6_endFrom hRm (by omega) (by decide) (by omega) (by omega) rfl rfl rfl (Nat.le_of_ble_eq_true rfl) rfl hf (fun hs => wX6_endFrom (by omega) (by omega) hs) (fun r1 c2 hf => ?_)
  refine mg_istore (lv' := [(0, .ref v0), (1, .int v1), (2, .int v2), (3, .int v3), (4, .int v4), (5, .int v5), (6, .int r1)]) C rfl (Nat.le_of_ble_eq_true rfl) rfl ?_
  refine mg_iload C rfl rfl ?_
  refine mg_aload_n C rfl rfl ?_
  refine mh_gR C rfl rfl rfl (by decide) hf (fun x3 hf => ?_)
  refine mg_iload_n C rfl rfl ?_
  refine mg_iconst (v := 1) C rfl (by decide) ?_
  refine mg_iload C rfl rfl ?_
  refine mg_ishl C rfl ?_
  refine mg_iconst (v := (-1)) C rfl (by decide) ?_
  refine mg_ixor C rfl ?_
  refine mg_iand C rfl ?_
  refine mg_iconst (v := 2) C rfl (by decide) ?_
  refine mg_imul C rfl ?_
  refine mg_iload C rfl rfl ?_
  refine mg_iadd C rfl ?_
  refine mh_aI C rfl hf (fun x4 hf => ?_)
  refine mh_icmp_gt C rfl hf (fun e_98 hf => ?_) (fun e_98 hf => ?_)
  · refine mg_sub (lv' := [(0, .ref v0), (1, .int v1), (2, .int v2), (3, .int v3), (4, .int v4)]) (by simp) ?_
    exact wX6_firstInTime_104 C hRm hd hn hk hw hk3 hf
  · refine mg_sub (lv' := [(4, .int v4)]) (by simp) ?_
    exact wX6_firstInTime_101 C hRm hd hn hk hw hf
def bX6_firstInTime_3 (N : Nat)  (k3 : Nat → Int32 → Int32 → Int32 → Int32 → mm_C → mR Int32) (v0 : Nat) (v1 : Int32) (v2 : Int32) (v3 : Int32) (v4 : Int32) (c : mm_C) : mR Int32 :=
  Option.bind (gR c v0 6 6) fun x1 => Option.bind (gI c x1 3 3) fun x2 => if x2 ≤ v4 then (some (.inl (-1 : Int32), c)) else (if (v1 &&& ((1 : Int32) <<< (v4 &&& 31))) = 0 then (bX6_firstInTime_104 N  k3 v0 v1 v2 v3 v4 c) else (cV 6 v0 c (fX6_isFree N v0 v4 (v1 ^^^ (-1 : Int32)) c) fun r3 c4 => if r3 = 0 then (bX6_firstInTime_104 N  k3 v0 v1 v2 v3 v4 c4) else (Option.bind (gR c4 v0 6 6) fun x5 => Option.bind (gR c4 x5 3 6) fun x6 => Option.bind (aR (.object "CloudTakes$Shot") c4 x6 v4) fun x7 => cV 7 x7 c4 (fX7_place N x7 c4) fun r8 c9 => if ¬ r8 = v2 then (Option.bind (gR c9 v0 6 6) fun x10 => Option.bind (gI c9 x10 3 1) fun x11 => bX6_firstInTime_72 N  k3 v0 v1 v2 v3 v4 r8 v0 v4 v3 x11 c9) else (bX6_firstInTime_72 N  k3 v0 v1 v2 v3 v4 r8 v0 v4 v3 (0 : Int32) c9))))
set_option maxRecDepth 100000 in
theorem wX6_firstInTime_3 {Z : mm_Z} {X : mm_T} {k w mc ms d n N : Nat} {Q : mm_O → mm_H → Prop} (C : mm_Ok Z qX6_firstInTime X) (hRm : mt_R X = mm_rm d mc ms) (hd : 2 ≤ d) (hn : n + 1 < 1000000) (hk : k + 1 ≤ mc) (hw : w + 6 ≤ ms) {k3 : Nat → Int32 → Int32 → Int32 → Int32 → mm_C → mR Int32} (hk3 : ∀ (v0 : Nat) (v1 : Int32) (v2 : Int32) (v3 : Int32) (v4 : Int32) (c : mm_C), hO 0 ovI n (k3 v0 v1 v2 v3 v4 c) Q → mG Z qX6_firstInTime X k w mc ms Q (3, [(0, .ref v0), (1, .int v1), (2, .int v2), (3, .int v3), (4, .int v4)], [], (n, c))) {v0 : Nat} {v1 : Int32} {v2 : Int32} {v3 : Int32} {v4 : Int32} {c : mm_C} (hf : hO 0 ovI n (bX6_firstInTime_3 N  k3 v0 v1 v2 v3 v4 c) Q) : mG Z qX6_firstInTime X k w mc ms Q (3, [(0, .ref v0), (1, .int v1), (2, .int v2), (3, .int v3), (4, .int v4)], [], (n, c)) := by
  unfold bX6_firstInTime_3 at hf
  refine mg_iload C rfl rfl ?_
  refine mg_aload_n C rfl rfl ?_
  refine mh_gR C rfl rfl rfl (by decide) hf (fun x1 hf => ?_)
  refine mh_gI C rfl rfl rfl (by decide) hf (fun x2 hf => ?_)
  refine mh_icmp_ge C rfl hf (fun e_12 hf => ?_) (fun e_12 hf => ?_)
  · refine mg_iconst (v := (-1)) C rfl (by decide) ?_
    exact mh_ireturn C rfl (by omega) (by omega) rfl hf
  · refine mg_iload_n C rfl rfl ?_
    refine mg_iconst (v := 1) C rfl (by decide) ?_
    refine mg_iload C rfl rfl ?_
    refine mg_ishl C rfl ?_
    refine mg_iand C rfl ?_
    refine mh_if_eq C rfl hf (fun e_21 hf => ?_) (fun e_21 hf => ?_)
    · exact wX6_firstInTime_104 C hRm hd hn hk hw hk3 hf
    · refine mg_aload_n C rfl rfl ?_
      refine mg_iload C rfl rfl ?_
      refine mg_iload_n C rfl rfl ?_
      refine mg_iconst (v := (-1)) C rfl (by decide) ?_
      refine mg_ixor C rfl ?_
      refine mh_cVI (M' := qX6_isFree) C rfl rfl aX6_isFree iX6_isFree sX6_isFree hRm (by omega) (by decide) (by omega) (by omega) rfl rfl rfl (Nat.le_of_ble_eq_true rfl) rfl hf (fun hs => wX6_isFree (by omega) (by omega) hs) (fun r3 c4 hf => ?_)
      refine mh_if_eq C rfl hf (fun e_33 hf => ?_) (fun e_33 hf => ?_)
      · exact wX6_firstInTime_104 C hRm hd hn hk hw hk3 hf
      · refine mg_aload_n C rfl rfl ?_
        refine mh_gR C rfl rfl rfl (by decide) hf (fun x5 hf => ?_)
        refine mh_gR C rfl rfl rfl (by decide) hf (fun x6 hf => ?_)
        refine mg_iload C rfl rfl ?_
        refine mh_aR (ti := 4) C rfl rfl rfl hf (fun x7 hf => ?_)
        refine mh_cVI (M' := qX7_place) C rfl rfl aX7_place iX7_place sX7_place hRm (by omega) (by decide) (by omega) (by omega) rfl rfl rfl (Nat.le_of_ble_eq_true rfl) rfl hf (fun hs => wX7_place (by omega) (by omega) hs) (fun r8 c9 hf => ?_)
        refine mg_istore (lv' := [(0, .ref v0), (1, .int v1), (2, .int v2), (3, .int v3), (4, .int v4), (5, .int r8)]) C rfl (Nat.le_of_ble_eq_true rfl) rfl ?_
        refine mg_aload_n C rfl rfl ?_
        refine mg_iload C rfl rfl ?_
        refine mg_iload_n C rfl rfl ?_
        refine mg_iload C rfl rfl ?_
        refine mg_iload_n C rfl rfl ?_
        refine mh_icmp_ne C rfl hf (fun e_58 hf => ?_) (fun e_58 hf => ?_)
        · refine mg_aload_n C rfl rfl ?_
          refine mh_gR C rfl rfl rfl (by decide) hf (fun x10 hf => ?_)
          refine mh_gI C rfl rfl rfl (by decide) hf (fun x11 hf => ?_)
          exact wX6_firstInTime_72 C hRm hd hn hk hw hk3 hf
        · refine mg_iconst (v := 0) C rfl (by decide) ?_
          refine mg_goto C rfl ?_
          exact wX6_firstInTime_72 C hRm hd hn hk hw hk3 hf
def lX6_firstInTime_3 (N : Nat)  : Nat → Nat → Int32 → Int32 → Int32 → Int32 → mm_C → mR Int32
  | 0, _, _, _, _, _, _ => none
  | m + 1, v0, v1, v2, v3, v4, c => bX6_firstInTime_3 N  (lX6_firstInTime_3 N  m) v0 v1 v2 v3 v4 c
theorem WX6_firstInTime_3 {Z : mm_Z} {X : mm_T} {k w mc ms d n N : Nat} {Q : mm_O → mm_H → Prop} (C : mm_Ok Z qX6_firstInTime X) (hRm : mt_R X = mm_rm d mc ms) (hd : 2 ≤ d) (hn : n + 1 < 1000000) (hk : k + 1 ≤ mc) (hw : w + 6 ≤ ms) : ∀ (m : Nat) {v0 : Nat} {v1 : Int32} {v2 : Int32} {v3 : Int32} {v4 : Int32} {c : mm_C} (hf : hO 0 ovI n (lX6_firstInTime_3 N  m v0 v1 v2 v3 v4 c) Q), mG Z qX6_firstInTime X k w mc ms Q (3, [(0, .ref v0), (1, .int v1), (2, .int v2), (3, .int v3), (4, .int v4)], [], (n, c)) := by
  intro m
  induction m with
  | zero => intro v0 v1 v2 v3 v4 c hf; exact absurd hf hO_none
  | succ m ih => intro v0 v1 v2 v3 v4 c hf; exact wX6_firstInTime_3 C hRm hd hn hk hw (fun v0 v1 v2 v3 v4 c hf => ih hf) hf
def bX6_firstInTime_0 (N : Nat)  (v0 : Nat) (v1 : Int32) (v2 : Int32) (v3 : Int32) (c : mm_C) : mR Int32 :=
  lX6_firstInTime_3 N  N v0 v1 v2 v3 (0 : Int32) c
set_option maxRecDepth 100000 in
theorem wX6_firstInTime_0 {Z : mm_Z} {X : mm_T} {k w mc ms d n N : Nat} {Q : mm_O → mm_H → Prop} (C : mm_Ok Z qX6_firstInTime X) (hRm : mt_R X = mm_rm d mc ms) (hd : 2 ≤ d) (hn : n + 1 < 1000000) (hk : k + 1 ≤ mc) (hw : w + 6 ≤ ms) {v0 : Nat} {v1 : Int32} {v2 : Int32} {v3 : Int32} {c : mm_C} (hf : hO 0 ovI n (bX6_firstInTime_0 N  v0 v1 v2 v3 c) Q) : mG Z qX6_firstInTime X k w mc ms Q (0, [(0, .ref v0), (1, .int v1), (2, .int v2), (3, .int v3)], [], (n, c)) := by
  unfold bX6_firstInTime_0 at hf
  refine mg_iconst (v := 0) C rfl (by decide) ?_
  refine mg_istore (lv' := [(0, .ref v0), (1, .int v1), (2, .int v2), (3, .int v3), (4, .int (0 : Int32))]) C rfl (Nat.le_of_ble_eq_true rfl) rfl ?_
  exact WX6_firstInTime_3 C hRm hd hn hk hw N hf
def fX6_firstInTime (N : Nat) (v0 : Nat) (v1 : Int32) (v2 : Int32) (v3 : Int32) (c : mm_C) : mR Int32 := bX6_firstInTime_0 N v0 v1 v2 v3 c
set_option maxRecDepth 100000 in
theorem wX6_firstInTime {Z : mm_Z} {d n N : Nat} (hd : 2 ≤ d) (hn : n + 1 < 1000000) {v0 : Nat} {v1 : Int32} {v2 : Int32} {v3 : Int32} {c : mm_C} (hs : (fX6_firstInTime N v0 v1 v2 v3 c).isSome = true) : mC Z qX6_firstInTime d 1 6 [.ref v0, .int v1, .int v2, .int v3] (n, c) (mP 0 ovI n (fX6_firstInTime N v0 v1 v2 v3 c)) := by
  refine mC_of gX6_firstInTime (by decide +kernel) (Nat.le_of_ble_eq_true rfl) fun X C hRm => ?_
  have hf := hO_mP 0 ovI n hs
  have hk : 0 + 1 ≤ 1 := Nat.le_of_ble_eq_true rfl
  have hw : 0 + 6 ≤ 6 := Nat.le_of_ble_eq_true rfl
  show mG _ _ _ _ _ _ _ _ (0, [(0, .ref v0), (1, .int v1), (2, .int v2), (3, .int v3)], [], (n, c))
  exact wX6_firstInTime_0 C hRm hd hn hk hw hf
def bX6_ordersMost_112 (N : Nat)  (k44 : Nat → Int32 → Int32 → Int32 → Int32 → mm_C → mR Unit) (v0 : Nat) (v1 : Int32) (v4 : Int32) (v5 : Int32) (v6 : Nat) (s0 : Nat) (s1 : Int32) (s2 : Int32) (s3 : Int32) (c : mm_C) : mR Unit :=
  cV 6 s0 c (fX6_endFrom N s0 s1 (s2 + s3) c) fun r1 c2 => cV 7 v6 c2 (fX7_place N v6 c2) fun r3 c4 => Option.bind (gR c4 v0 6 4) fun x5 => Option.bind (tI c4 x5 v4 v5) fun c6 => k44 v0 (v1 &&& (((1 : Int32) <<< (v5 &&& 31)) ^^^ (-1 : Int32))) r3 r1 (v4 + 1) c6
set_option maxRecDepth 100000 in
theorem wX6_ordersMost_112 {Z : mm_Z} {X : mm_T} {k w mc ms d n N : Nat} {Q : mm_O → mm_H → Prop} (C : mm_Ok Z qX6_ordersMost X) (hRm : mt_R X = mm_rm d mc ms) (hd : 6 ≤ d) (hn : n + 1 < 1000000) (hk : k + 1 ≤ mc) (hw : w + 6 ≤ ms) {k44 : Nat → Int32 → Int32 → Int32 → Int32 → mm_C → mR Unit} (hk44 : ∀ (v0 : Nat) (v1 : Int32) (v2 : Int32) (v3 : Int32) (v4 : Int32) (c : mm_C), hO 0 ovU n (k44 v0 v1 v2 v3 v4 c) Q → mG Z qX6_ordersMost X k w mc ms Q (44, [(0, .ref v0), (1, .int v1), (2, .int v2), (3, .int v3), (4, .int v4)], [], (n, c))) {v0 : Nat} {v1 : Int32} {v4 : Int32} {v5 : Int32} {v6 : Nat} {s0 : Nat} {s1 : Int32} {s2 : Int32} {s3 : Int32} {c : mm_C} (hf : hO 0 ovU n (bX6_ordersMost_112 N  k44 v0 v1 v4 v5 v6 s0 s1 s2 s3 c) Q) : mG Z qX6_ordersMost X k w mc ms Q (112, [(0, .ref v0), (1, .int v1), (4, .int v4), (5, .int v5), (6, .ref v6)], [.int s3, .int s2, .int s1, .ref s0], (n, c)) := by
  unfold bX6_ordersMost_112 at hf
  refine mg_iadd C rfl ?_
  refine mh_cVI (M' := qX6_endFrom) C rfl rfl aX6_endFrom iX6_endFrom sX6_endFrom hRm (by omega) (by decide) (by omega) (by omega) rfl rfl rfl (Nat.le_of_ble_eq_true rfl) rfl hf (fun hs => wX6_endFrom (by omega) (by omega) hs) (fun r1 c2 hf => ?_)
  refine mg_istore_n (lv' := [(0, .ref v0), (1, .int v1), (3, .int r1), (4, .int v4), (5, .int v5), (6, .ref v6)]) C rfl (Nat.le_of_ble_eq_true rfl) rfl ?_
  refine mg_aload C rfl rfl ?_
  refine mh_cVI (M' := qX7_place) C rfl rfl aX7_place iX7_place sX7_place hRm (by omega) (by decide) (by omega) (by omega) rfl rfl rfl (Nat.le_of_ble_eq_true rfl) rfl hf (fun hs => wX7_place (by omega) (by omega) hs) (fun r3 c4 hf => ?_)
  refine mg_istore_n (lv' := [(0, .ref v0), (1, .int v1), (2, .int r3), (3, .int r1), (4, .int v4), (5, .int v5), (6, .ref v6)]) C rfl (Nat.le_of_ble_eq_true rfl) rfl ?_
  refine mg_iload_n C rfl rfl ?_
  refine mg_iconst (v := 1) C rfl (by decide) ?_
  refine mg_iload C rfl rfl ?_
  refine mg_ishl C rfl ?_
  refine mg_iconst (v := (-1)) C rfl (by decide) ?_
  refine mg_ixor C rfl ?_
  refine mg_iand C rfl ?_
  refine mg_istore_n (lv' := [(0, .ref v0), (1, .int (v1 &&& (((1 : Int32) <<< (v5 &&& 31)) ^^^ (-1 : Int32)))), (2, .int r3), (3, .int r1), (4, .int v4), (5, .int v5), (6, .ref v6)]) C rfl (Nat.le_of_ble_eq_true rfl) rfl ?_
  refine mg_aload_n C rfl rfl ?_
  refine mh_gR C rfl rfl rfl (by decide) hf (fun x5 hf => ?_)
  refine mg_iload C rfl rfl ?_
  refine mg_iload C rfl rfl ?_
  refine mh_tI C rfl hf (fun c6 hf => ?_)
  refine mg_iinc (lv' := [(0, .ref v0), (1, .int (v1 &&& (((1 : Int32) <<< (v5 &&& 31)) ^^^ (-1 : Int32)))), (2, .int r3), (3, .int r1), (4, .int (v4 + 1)), (5, .int v5), (6, .ref v6)]) C rfl (Nat.le_of_ble_eq_true rfl) rfl (show _ + Int32.ofInt 1 = _ + 1 by congr 1) rfl ?_
  refine mg_goto C rfl ?_
  refine mg_sub (lv' := [(0, .ref v0), (1, .int (v1 &&& (((1 : Int32) <<< (v5 &&& 31)) ^^^ (-1 : Int32)))), (2, .int r3), (3, .int r1), (4, .int (v4 + 1))]) (by simp) ?_
  exact hk44 _ _ _ _ _ _ hf
def bX6_ordersMost_44 (N : Nat)  (k44 : Nat → Int32 → Int32 → Int32 → Int32 → mm_C → mR Unit) (v0 : Nat) (v1 : Int32) (v2 : Int32) (v3 : Int32) (v4 : Int32) (c : mm_C) : mR Unit :=
  Option.bind (gI c v0 6 1) fun x1 => if x1 ≤ v4 then (some (.inl (), c)) else (if (8 : Int32) ≤ v4 then (some (.inl (), c)) else (cV 6 v0 c (fX6_firstInTime N v0 v1 v2 v3 c) fun r2 c3 => if ¬ r2 = (-1 : Int32) then (Option.bind (gR c3 v0 6 6) fun x4 => Option.bind (gR c3 x4 3 6) fun x5 => Option.bind (aR (.object "CloudTakes$Shot") c3 x5 r2) fun x6 => cV 7 x6 c3 (fX7_place N x6 c3) fun r7 c8 => if ¬ r7 = v2 then (Option.bind (gR c8 v0 6 6) fun x9 => Option.bind (gI c8 x9 3 1) fun x10 => bX6_ordersMost_112 N  k44 v0 v1 v4 r2 x6 v0 r2 v3 x10 c8) else (bX6_ordersMost_112 N  k44 v0 v1 v4 r2 x6 v0 r2 v3 (0 : Int32) c8)) else (some (.inl (), c3))))
set_option maxRecDepth 100000 in
theorem wX6_ordersMost_44 {Z : mm_Z} {X : mm_T} {k w mc ms d n N : Nat} {Q : mm_O → mm_H → Prop} (C : mm_Ok Z qX6_ordersMost X) (hRm : mt_R X = mm_rm d mc ms) (hd : 6 ≤ d) (hn : n + 1 < 1000000) (hk : k + 1 ≤ mc) (hw : w + 6 ≤ ms) {k44 : Nat → Int32 → Int32 → Int32 → Int32 → mm_C → mR Unit} (hk44 : ∀ (v0 : Nat) (v1 : Int32) (v2 : Int32) (v3 : Int32) (v4 : Int32) (c : mm_C), hO 0 ovU n (k44 v0 v1 v2 v3 v4 c) Q → mG Z qX6_ordersMost X k w mc ms Q (44, [(0, .ref v0), (1, .int v1), (2, .int v2), (3, .int v3), (4, .int v4)], [], (n, c))) {v0 : Nat} {v1 : Int32} {v2 : Int32} {v3 : Int32} {v4 : Int32} {c : mm_C} (hf : hO 0 ovU n (bX6_ordersMost_44 N  k44 v0 v1 v2 v3 v4 c) Q) : mG Z qX6_ordersMost X k w mc ms Q (44, [(0, .ref v0), (1, .int v1), (2, .int v2), (3, .int v3), (4, .int v4)], [], (n, c)) := by
  unfold bX6_ordersMost_44 at hf
  refine mg_iload C rfl rfl ?_
  refine mg_aload_n C rfl rfl ?_
  refine mh_gI C rfl rfl rfl (by decide) hf (fun x1 hf => ?_)
  refine mh_icmp_ge C rfl hf (fun e_50 hf => ?_) (fun e_50 hf => ?_)
  · exact mh_return C rfl (by omega) (by omega) rfl hf
  · refine mg_iload C rfl rfl ?_
    refine mg_bipush (v := 8) C rfl (by decide) ?_
    refine mh_icmp_ge C rfl hf (fun e_57 hf => ?_) (fun e_57 hf => ?_)
    · exact mh_return C rfl (by omega) (by omega) rfl hf
    · refine mg_aload_n C rfl rfl ?_
      refine mg_iload_n C rfl rfl ?_
      refine mg_iload_n C rfl rfl ?_
      refine mg_iload_n C rfl rfl ?_
      refine mh_cVI (M' := qX6_firstInTime) C rfl rfl aX6_firstInTime iX6_firstInTime sX6_firstInTime hRm (by omega) (by decide) (by omega) (by omega) rfl rfl rfl (Nat.le_of_ble_eq_true rfl) rfl hf (fun hs => wX6_firstInTime (by omega) (by omega) hs) (fun r2 c3 hf => ?_)
      refine mg_istore (lv' := [(0, .ref v0), (1, .int v1), (2, .int v2), (3, .int v3), (4, .int v4), (5, .int r2)]) C rfl (Nat.le_of_ble_eq_true rfl) rfl ?_
      refine mg_iload C rfl rfl ?_
      refine mg_iconst (v := (-1)) C rfl (by decide) ?_
      refine mh_icmp_ne C rfl hf (fun e_72 hf => ?_) (fun e_72 hf => ?_)
      · refine mg_aload_n C rfl rfl ?_
        refine mh_gR C rfl rfl rfl (by decide) hf (fun x4 hf => ?_)
        refine mh_gR C rfl rfl rfl (by decide) hf (fun x5 hf => ?_)
        refine mg_iload C rfl rfl ?_
        refine mh_aR (ti := 4) C rfl rfl rfl hf (fun x6 hf => ?_)
        refine mg_astore (lv' := [(0, .ref v0), (1, .int v1), (2, .int v2), (3, .int v3), (4, .int v4), (5, .int r2), (6, .ref x6)]) C rfl (Nat.le_of_ble_eq_true rfl) rfl ?_
        refine mg_aload_n C rfl rfl ?_
        refine mg_iload C rfl rfl ?_
        refine mg_iload_n C rfl rfl ?_
        refine mg_aload C rfl rfl ?_
        refine mh_cVI (M' := qX7_place) C rfl rfl aX7_place iX7_place sX7_place hRm (by omega) (by decide) (by omega) (by omega) rfl rfl rfl (Nat.le_of_ble_eq_true rfl) rfl hf (fun hs => wX7_place (by omega) (by omega) hs) (fun r7 c8 hf => ?_)
        refine mg_iload_n C rfl rfl ?_
        refine mh_icmp_ne C rfl hf (fun e_98 hf => ?_) (fun e_98 hf => ?_)
        · refine mg_aload_n C rfl rfl ?_
          refine mh_gR C rfl rfl rfl (by decide) hf (fun x9 hf => ?_)
          refine mh_gI C rfl rfl rfl (by decide) hf (fun x10 hf => ?_)
          refine mg_sub (lv' := [(0, .ref v0), (1, .int v1), (4, .int v4), (5, .int r2), (6, .ref x6)]) (by simp) ?_
          exact wX6_ordersMost_112 C hRm hd hn hk hw hk44 hf
        · refine mg_iconst (v := 0) C rfl (by decide) ?_
          refine mg_goto C rfl ?_
          refine mg_sub (lv' := [(0, .ref v0), (1, .int v1), (4, .int v4), (5, .int r2), (6, .ref x6)]) (by simp) ?_
          exact wX6_ordersMost_112 C hRm hd hn hk hw hk44 hf
      · exact mh_return C rfl (by omega) (by omega) rfl hf
def lX6_ordersMost_44 (N : Nat)  : Nat → Nat → Int32 → Int32 → Int32 → Int32 → mm_C → mR Unit
  | 0, _, _, _, _, _, _ => none
  | m + 1, v0, v1, v2, v3, v4, c => bX6_ordersMost_44 N  (lX6_ordersMost_44 N  m) v0 v1 v2 v3 v4 c
theorem WX6_ordersMost_44 {Z : mm_Z} {X : mm_T} {k w mc ms d n N : Nat} {Q : mm_O → mm_H → Prop} (C : mm_Ok Z qX6_ordersMost X) (hRm : mt_R X = mm_rm d mc ms) (hd : 6 ≤ d) (hn : n + 1 < 1000000) (hk : k + 1 ≤ mc) (hw : w + 6 ≤ ms) : ∀ (m : Nat) {v0 : Nat} {v1 : Int32} {v2 : Int32} {v3 : Int32} {v4 : Int32} {c : mm_C} (hf : hO 0 ovU n (lX6_ordersMost_44 N  m v0 v1 v2 v3 v4 c) Q), mG Z qX6_ordersMost X k w mc ms Q (44, [(0, .ref v0), (1, .int v1), (2, .int v2), (3, .int v3), (4, .int v4)], [], (n, c)) := by
  intro m
  induction m with
  | zero => intro v0 v1 v2 v3 v4 c hf; exact absurd hf hO_none
  | succ m ih => intro v0 v1 v2 v3 v4 c hf; exact wX6_ordersMost_44 C hRm hd hn hk hw (fun v0 v1 v2 v3 v4 c hf => ih hf) hf
def bX6_ordersMost_0 (N : Nat)  (v0 : Nat) (c : mm_C) : mR Unit :=
  Option.bind (gI c v0 6 3) fun x1 => Option.bind (gR c v0 6 7) fun x2 => Option.bind (gI c x2 9 1) fun x3 => Option.bind (gI c v0 6 2) fun x4 => cV 6 v0 c (fX6_latestFor N v0 x1 x3 x4 c) fun r5 c6 => Option.bind (gI c6 v0 6 3) fun x7 => Option.bind (gR c6 v0 6 7) fun x8 => Option.bind (gI c6 x8 9 1) fun x9 => Option.bind (gR c6 v0 6 7) fun x10 => Option.bind (gI c6 x10 9 0) fun x11 => lX6_ordersMost_44 N  N v0 x7 x9 x11 (0 : Int32) c6
set_option maxRecDepth 100000 in
theorem wX6_ordersMost_0 {Z : mm_Z} {X : mm_T} {k w mc ms d n N : Nat} {Q : mm_O → mm_H → Prop} (C : mm_Ok Z qX6_ordersMost X) (hRm : mt_R X = mm_rm d mc ms) (hd : 6 ≤ d) (hn : n + 1 < 1000000) (hk : k + 1 ≤ mc) (hw : w + 6 ≤ ms) {v0 : Nat} {c : mm_C} (hf : hO 0 ovU n (bX6_ordersMost_0 N  v0 c) Q) : mG Z qX6_ordersMost X k w mc ms Q (0, [(0, .ref v0)], [], (n, c)) := by
  unfold bX6_ordersMost_0 at hf
  refine mg_aload_n C rfl rfl ?_
  refine mg_aload_n C rfl rfl ?_
  refine mh_gI C rfl rfl rfl (by decide) hf (fun x1 hf => ?_)
  refine mg_aload_n C rfl rfl ?_
  refine mh_gR C rfl rfl rfl (by decide) hf (fun x2 hf => ?_)
  refine mh_gI C rfl rfl rfl (by decide) hf (fun x3 hf => ?_)
  refine mg_aload_n C rfl rfl ?_
  refine mh_gI C rfl rfl rfl (by decide) hf (fun x4 hf => ?_)
  refine mh_cVI (M' := qX6_latestFor) C rfl rfl aX6_latestFor iX6_latestFor sX6_latestFor hRm (by omega) (by decide) (by omega) (by omega) rfl rfl rfl (Nat.le_of_ble_eq_true rfl) rfl hf (fun hs => wX6_latestFor (by omega) (by omega) hs) (fun r5 c6 hf => ?_)
  refine mg_pop C rfl rfl ?_
  refine mg_aload_n C rfl rfl ?_
  refine mh_gI C rfl rfl rfl (by decide) hf (fun x7 hf => ?_)
  refine mg_istore_n (lv' := [(0, .ref v0), (1, .int x7)]) C rfl (Nat.le_of_ble_eq_true rfl) rfl ?_
  refine mg_aload_n C rfl rfl ?_
  refine mh_gR C rfl rfl rfl (by decide) hf (fun x8 hf => ?_)
  refine mh_gI C rfl rfl rfl (by decide) hf (fun x9 hf => ?_)
  refine mg_istore_n (lv' := [(0, .ref v0), (1, .int x7), (2, .int x9)]) C rfl (Nat.le_of_ble_eq_true rfl) rfl ?_
  refine mg_aload_n C rfl rfl ?_
  refine mh_gR C rfl rfl rfl (by decide) hf (fun x10 hf => ?_)
  refine mh_gI C rfl rfl rfl (by decide) hf (fun x11 hf => ?_)
  refine mg_istore_n (lv' := [(0, .ref v0), (1, .int x7), (2, .int x9), (3, .int x11)]) C rfl (Nat.le_of_ble_eq_true rfl) rfl ?_
  refine mg_iconst (v := 0) C rfl (by decide) ?_
  refine mg_istore (lv' := [(0, .ref v0), (1, .int x7), (2, .int x9), (3, .int x11), (4, .int (0 : Int32))]) C rfl (Nat.le_of_ble_eq_true rfl) rfl ?_
  exact WX6_ordersMost_44 C hRm hd hn hk hw N hf
def fX6_ordersMost (N : Nat) (v0 : Nat) (c : mm_C) : mR Unit := bX6_ordersMost_0 N v0 c
set_option maxRecDepth 100000 in
theorem wX6_ordersMost {Z : mm_Z} {d n N : Nat} (hd : 6 ≤ d) (hn : n + 1 < 1000000) {v0 : Nat} {c : mm_C} (hs : (fX6_ordersMost N v0 c).isSome = true) : mC Z qX6_ordersMost d 1 6 [.ref v0] (n, c) (mP 0 ovU n (fX6_ordersMost N v0 c)) := by
  refine mC_of gX6_ordersMost (by decide +kernel) (Nat.le_of_ble_eq_true rfl) fun X C hRm => ?_
  have hf := hO_mP 0 ovU n hs
  have hk : 0 + 1 ≤ 1 := Nat.le_of_ble_eq_true rfl
  have hw : 0 + 6 ≤ 6 := Nat.le_of_ble_eq_true rfl
  show mG _ _ _ _ _ _ _ _ (0, [(0, .ref v0)], [], (n, c))
  exact wX6_ordersMost_0 C hRm hd hn hk hw hf
