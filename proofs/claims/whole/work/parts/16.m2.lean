/- needs: 15.acall 15.fun 16.m1 -/
def hE_X12_endsBy (Z : mm_Z) (dE : Nat) (eE : Nat → Int32 → Int32 → Int32 → Int32 → Int32 → Int32 → mm_C → mR Int32) : Prop := ∀ d, dE ≤ d → ∀ n, n + 1 < 1000000 → ∀ (v0 : Nat) (v1 : Int32) (v2 : Int32) (v3 : Int32) (v4 : Int32) (v5 : Int32) (v6 : Int32) (c : mm_C), (eE v0 v1 v2 v3 v4 v5 v6 c).isSome = true → mC Z qX12_endsBy d 1 6 [.ref v0, .int v1, .int v2, .int v3, .int v4, .int v5, .int v6] (n, c) (mP 0 ovI n (eE v0 v1 v2 v3 v4 v5 v6 c))
def bX12_keep_52 (N : Nat)  (v0 : Nat) (c : mm_C) : mR Unit :=
  Option.bind (gR c v0 12 27) fun x1 => Option.bind (gI c v0 12 28) fun x2 => cV 12 v0 c (fX12_pack N v0 x1 ((31 : Int32) * x2) c) fun (_ : Unit) c3 => Option.bind (gI c3 v0 12 28) fun x4 => Option.bind (pI c3 v0 12 28 (x4 + (1 : Int32))) fun c5 => some (.inl (), c5)
set_option maxRecDepth 100000 in
theorem wX12_keep_52 {Z : mm_Z} {X : mm_T} {k w mc ms d n N : Nat} {Q : mm_O → mm_H → Prop} (C : mm_Ok Z qX12_keep X) (hRm : mt_R X = mm_rm d mc ms) (hd : 2 ≤ d) (hn : n + 1 < 1000000) (hk : k + 1 ≤ mc) (hw : w + 6 ≤ ms) {v0 : Nat} {c : mm_C} (hf : hO 0 ovU n (bX12_keep_52 N  v0 c) Q) : mG Z qX12_keep X k w mc ms Q (52, [(0, .ref v0)], [], (n, c)) := by
  unfold bX12_keep_52 at hf
  refine mg_aload_n C rfl rfl ?_
  refine mg_aload_n C rfl rfl ?_
  refine mh_gR C rfl rfl rfl (by decide) hf (fun x1 hf => ?_)
  refine mg_bipush (v := 31) C rfl (by decide) ?_
  refine mg_aload_n C rfl rfl ?_
  refine mh_gI C rfl rfl rfl (by decide) hf (fun x2 hf => ?_)
  refine mg_imul C rfl ?_
  refine mh_cVU (M' := qX12_pack) C rfl rfl aX12_pack iX12_pack sX12_pack hRm (by omega) (by decide) (by omega) (by omega) rfl rfl rfl (Nat.le_of_ble_eq_true rfl) rfl hf (fun hs => wX12_pack (by omega) (by omega) hs) (fun c3 hf => ?_)
  refine mg_aload_n C rfl rfl ?_
  refine mg_dup C rfl rfl ?_
  refine mh_gI C rfl rfl rfl (by decide) hf (fun x4 hf => ?_)
  refine mg_iconst (v := 1) C rfl (by decide) ?_
  refine mg_iadd C rfl ?_
  refine mh_pI C rfl rfl rfl (by decide) rfl rfl rfl hf (fun c5 hf => ?_)
  exact mh_return C rfl (by omega) (by omega) rfl hf
def bX12_keep_42 (N : Nat)  (v0 : Nat) (c : mm_C) : mR Unit :=
  Option.bind (gI c v0 12 28) fun x1 => Option.bind (pI c v0 12 28 (x1 - (1 : Int32))) fun c2 => bX12_keep_52 N  v0 c2
set_option maxRecDepth 100000 in
theorem wX12_keep_42 {Z : mm_Z} {X : mm_T} {k w mc ms d n N : Nat} {Q : mm_O → mm_H → Prop} (C : mm_Ok Z qX12_keep X) (hRm : mt_R X = mm_rm d mc ms) (hd : 2 ≤ d) (hn : n + 1 < 1000000) (hk : k + 1 ≤ mc) (hw : w + 6 ≤ ms) {v0 : Nat} {c : mm_C} (hf : hO 0 ovU n (bX12_keep_42 N  v0 c) Q) : mG Z qX12_keep X k w mc ms Q (42, [(0, .ref v0)], [], (n, c)) := by
  unfold bX12_keep_42 at hf
  refine mg_aload_n C rfl rfl ?_
  refine mg_dup C rfl rfl ?_
  refine mh_gI C rfl rfl rfl (by decide) hf (fun x1 hf => ?_)
  refine mg_iconst (v := 1) C rfl (by decide) ?_
  refine mg_isub C rfl ?_
  refine mh_pI C rfl rfl rfl (by decide) rfl rfl rfl hf (fun c2 hf => ?_)
  exact wX12_keep_52 C hRm hd hn hk hw hf
def bX12_keep_12 (N : Nat)  (k12 : Nat → Int32 → mm_C → mR Unit) (v0 : Nat) (v1 : Int32) (c : mm_C) : mR Unit :=
  Option.bind (gR c v0 12 27) fun x1 => Option.bind (aN c x1) fun x2 => if x2 ≤ v1 then (bX12_keep_42 N  v0 c) else (Option.bind (gR c v0 12 27) fun x3 => Option.bind (gR c v0 12 27) fun x4 => Option.bind (aI c x4 v1) fun x5 => Option.bind (tI c x3 (v1 - (31 : Int32)) x5) fun c6 => k12 v0 (v1 + 1) c6)
set_option maxRecDepth 100000 in
theorem wX12_keep_12 {Z : mm_Z} {X : mm_T} {k w mc ms d n N : Nat} {Q : mm_O → mm_H → Prop} (C : mm_Ok Z qX12_keep X) (hRm : mt_R X = mm_rm d mc ms) (hd : 2 ≤ d) (hn : n + 1 < 1000000) (hk : k + 1 ≤ mc) (hw : w + 6 ≤ ms) {k12 : Nat → Int32 → mm_C → mR Unit} (hk12 : ∀ (v0 : Nat) (v1 : Int32) (c : mm_C), hO 0 ovU n (k12 v0 v1 c) Q → mG Z qX12_keep X k w mc ms Q (12, [(0, .ref v0), (1, .int v1)], [], (n, c))) {v0 : Nat} {v1 : Int32} {c : mm_C} (hf : hO 0 ovU n (bX12_keep_12 N  k12 v0 v1 c) Q) : mG Z qX12_keep X k w mc ms Q (12, [(0, .ref v0), (1, .int v1)], [], (n, c)) := by
  unfold bX12_keep_12 at hf
  refine mg_iload_n C rfl rfl ?_
  refine mg_aload_n C rfl rfl ?_
  refine mh_gR C rfl rfl rfl (by decide) hf (fun x1 hf => ?_)
  refine mh_aN C rfl hf (fun x2 hf => ?_)
  refine mh_icmp_ge C rfl hf (fun e_18 hf => ?_) (fun e_18 hf => ?_)
  · refine mg_sub (lv' := [(0, .ref v0)]) (by simp) ?_
    exact wX12_keep_42 C hRm hd hn hk hw hf
  · refine mg_aload_n C rfl rfl ?_
    refine mh_gR C rfl rfl rfl (by decide) hf (fun x3 hf => ?_)
    refine mg_iload_n C rfl rfl ?_
    refine mg_bipush (v := 31) C rfl (by decide) ?_
    refine mg_isub C rfl ?_
    refine mg_aload_n C rfl rfl ?_
    refine mh_gR C rfl rfl rfl (by decide) hf (fun x4 hf => ?_)
    refine mg_iload_n C rfl rfl ?_
    refine mh_aI C rfl hf (fun x5 hf => ?_)
    refine mh_tI C rfl hf (fun c6 hf => ?_)
    refine mg_iinc (lv' := [(0, .ref v0), (1, .int (v1 + 1))]) C rfl (Nat.le_of_ble_eq_true rfl) rfl (show _ + Int32.ofInt 1 = _ + 1 by congr 1) rfl ?_
    refine mg_goto C rfl ?_
    exact hk12 _ _ _ hf
def lX12_keep_12 (N : Nat)  : Nat → Nat → Int32 → mm_C → mR Unit
  | 0, _, _, _ => none
  | m + 1, v0, v1, c => bX12_keep_12 N  (lX12_keep_12 N  m) v0 v1 c
theorem WX12_keep_12 {Z : mm_Z} {X : mm_T} {k w mc ms d n N : Nat} {Q : mm_O → mm_H → Prop} (C : mm_Ok Z qX12_keep X) (hRm : mt_R X = mm_rm d mc ms) (hd : 2 ≤ d) (hn : n + 1 < 1000000) (hk : k + 1 ≤ mc) (hw : w + 6 ≤ ms) : ∀ (m : Nat) {v0 : Nat} {v1 : Int32} {c : mm_C} (hf : hO 0 ovU n (lX12_keep_12 N  m v0 v1 c) Q), mG Z qX12_keep X k w mc ms Q (12, [(0, .ref v0), (1, .int v1)], [], (n, c)) := by
  intro m
  induction m with
  | zero => intro v0 v1 c hf; exact absurd hf hO_none
  | succ m ih => intro v0 v1 c hf; exact wX12_keep_12 C hRm hd hn hk hw (fun v0 v1 c hf => ih hf) hf
def bX12_keep_0 (N : Nat)  (v0 : Nat) (c : mm_C) : mR Unit :=
  Option.bind (gI c v0 12 28) fun x1 => if ¬ x1 = (40 : Int32) then (bX12_keep_52 N  v0 c) else (lX12_keep_12 N  N v0 (31 : Int32) c)
set_option maxRecDepth 100000 in
theorem wX12_keep_0 {Z : mm_Z} {X : mm_T} {k w mc ms d n N : Nat} {Q : mm_O → mm_H → Prop} (C : mm_Ok Z qX12_keep X) (hRm : mt_R X = mm_rm d mc ms) (hd : 2 ≤ d) (hn : n + 1 < 1000000) (hk : k + 1 ≤ mc) (hw : w + 6 ≤ ms) {v0 : Nat} {c : mm_C} (hf : hO 0 ovU n (bX12_keep_0 N  v0 c) Q) : mG Z qX12_keep X k w mc ms Q (0, [(0, .ref v0)], [], (n, c)) := by
  unfold bX12_keep_0 at hf
  refine mg_aload_n C rfl rfl ?_
  refine mh_gI C rfl rfl rfl (by decide) hf (fun x1 hf => ?_)
  refine mg_bipush (v := 40) C rfl (by decide) ?_
  refine mh_icmp_ne C rfl hf (fun e_6 hf => ?_) (fun e_6 hf => ?_)
  · exact wX12_keep_52 C hRm hd hn hk hw hf
  · refine mg_bipush (v := 31) C rfl (by decide) ?_
    refine mg_istore_n (lv' := [(0, .ref v0), (1, .int (31 : Int32))]) C rfl (Nat.le_of_ble_eq_true rfl) rfl ?_
    exact WX12_keep_12 C hRm hd hn hk hw N hf
def fX12_keep (N : Nat) (v0 : Nat) (c : mm_C) : mR Unit := bX12_keep_0 N v0 c
set_option maxRecDepth 100000 in
theorem wX12_keep {Z : mm_Z} {d n N : Nat} (hd : 2 ≤ d) (hn : n + 1 < 1000000) {v0 : Nat} {c : mm_C} (hs : (fX12_keep N v0 c).isSome = true) : mC Z qX12_keep d 1 6 [.ref v0] (n, c) (mP 0 ovU n (fX12_keep N v0 c)) := by
  refine mC_of gX12_keep (by decide +kernel) (Nat.le_of_ble_eq_true rfl) fun X C hRm => ?_
  have hf := hO_mP 0 ovU n hs
  have hk : 0 + 1 ≤ 1 := Nat.le_of_ble_eq_true rfl
  have hw : 0 + 6 ≤ 6 := Nat.le_of_ble_eq_true rfl
  show mG _ _ _ _ _ _ _ _ (0, [(0, .ref v0)], [], (n, c))
  exact wX12_keep_0 C hRm hd hn hk hw hf
def bX12_take_52 (N : Nat)  (v0 : Nat) (c : mm_C) : mR Int32 :=
  cV 12 v0 c (fX12_refuse N v0 (1 : Int32) c) fun r1 c2 => some (.inl r1, c2)
set_option maxRecDepth 100000 in
theorem wX12_take_52 {Z : mm_Z} {X : mm_T} {k w mc ms d n N : Nat} {Q : mm_O → mm_H → Prop} (C : mm_Ok Z qX12_take X) (hRm : mt_R X = mm_rm d mc ms) (hd : 4 ≤ d) (hn : n + 1 < 1000000) (hk : k + 1 ≤ mc) (hw : w + 6 ≤ ms) {v0 : Nat} {c : mm_C} (hf : hO 0 ovI n (bX12_take_52 N  v0 c) Q) : mG Z qX12_take X k w mc ms Q (52, [(0, .ref v0)], [], (n, c)) := by
  unfold bX12_take_52 at hf
  refine mg_aload_n C rfl rfl ?_
  refine mg_iconst (v := 1) C rfl (by decide) ?_
  refine mh_cVI (M' := qX12_refuse) C rfl rfl aX12_refuse iX12_refuse sX12_refuse hRm (by omega) (by decide) (by omega) (by omega) rfl rfl rfl (Nat.le_of_ble_eq_true rfl) rfl hf (fun hs => wX12_refuse (by omega) (by omega) hs) (fun r1 c2 hf => ?_)
  exact mh_ireturn C rfl (by omega) (by omega) rfl hf
def bX12_take_0 (N : Nat)  (v0 : Nat) (v1 : Int32) (c : mm_C) : mR Int32 :=
  Option.bind (pI c v0 12 2 (0 : Int32)) fun c1 => cV 12 v0 c1 (fX12_isShot N v0 v1 c1) fun r2 c3 => if ¬ r2 = 0 then (cV 12 v0 c3 (fX12_set N v0 c3) fun (_ : Unit) c4 => Option.bind (gR c4 v0 12 26) fun x5 => Option.bind (aI c4 x5 (0 : Int32)) fun x6 => Option.bind (gR c4 v0 12 3) fun x7 => Option.bind (aI c4 x7 (1 : Int32)) fun x8 => if x8 ≤ x6 then (bX12_take_52 N  v0 c4) else (Option.bind (gR c4 v0 12 26) fun x9 => Option.bind (aI c4 x9 (0 : Int32)) fun x10 => cV 12 v0 c4 (fX12_whyNow N v0 v1 x10 c4) fun r11 c12 => if r11 = 0 then (cV 12 v0 c12 (fX12_keep N v0 c12) fun (_ : Unit) c13 => cV 12 v0 c13 (fX12_takes N v0 v1 c13) fun r14 c15 => if r14 = 0 then (some (.inl (0 : Int32), c15)) else (some (.inl (1 : Int32), c15))) else (bX12_take_52 N  v0 c12))) else (cV 12 v0 c3 (fX12_fail N v0 (1 : Int32) c3) fun r16 c17 => some (.inl r16, c17))
set_option maxRecDepth 100000 in
theorem wX12_take_0 {Z : mm_Z} {X : mm_T} {k w mc ms d n N : Nat} {Q : mm_O → mm_H → Prop} (C : mm_Ok Z qX12_take X) (hRm : mt_R X = mm_rm d mc ms) (hd : 4 ≤ d) (hn : n + 1 < 1000000) (hk : k + 1 ≤ mc) (hw : w + 6 ≤ ms) {v0 : Nat} {v1 : Int32} {c : mm_C} (hf : hO 0 ovI n (bX12_take_0 N  v0 v1 c) Q) : mG Z qX12_take X k w mc ms Q (0, [(0, .ref v0), (1, .int v1)], [], (n, c)) := by
  unfold bX12_take_0 at hf
  refine mg_aload_n C rfl rfl ?_
  refine mg_iconst (v := 0) C rfl (by decide) ?_
  refine mh_pI C rfl rfl rfl (by decide) rfl rfl rfl hf (fun c1 hf => ?_)
  refine mg_aload_n C rfl rfl ?_
  refine mg_iload_n C rfl rfl ?_
  refine mh_cVI (M' := qX12_isShot) C rfl rfl aX12_isShot iX12_isShot sX12_isShot hRm (by omega) (by decide) (by omega) (by omega) rfl rfl rfl (Nat.le_of_ble_eq_true rfl) rfl hf (fun hs => wX12_isShot (by omega) (by omega) hs) (fun r2 c3 hf => ?_)
  refine mh_if_ne C rfl hf (fun e_10 hf => ?_) (fun e_10 hf => ?_)
  · refine mg_aload_n C rfl rfl ?_
    refine mh_cVU (M' := qX12_set) C rfl rfl aX12_set iX12_set sX12_set hRm (by omega) (by decide) (by omega) (by omega) rfl rfl rfl (Nat.le_of_ble_eq_true rfl) rfl hf (fun hs => wX12_set (by omega) (by omega) hs) (fun c4 hf => ?_)
    refine mg_aload_n C rfl rfl ?_
    refine mh_gR C rfl rfl rfl (by decide) hf (fun x5 hf => ?_)
    refine mg_iconst (v := 0) C rfl (by decide) ?_
    refine mh_aI C rfl hf (fun x6 hf => ?_)
    refine mg_aload_n C rfl rfl ?_
    refine mh_gR C rfl rfl rfl (by decide) hf (fun x7 hf => ?_)
    refine mg_iconst (v := 1) C rfl (by decide) ?_
    refine mh_aI C rfl hf (fun x8 hf => ?_)
    refine mh_icmp_ge C rfl hf (fun e_35 hf => ?_) (fun e_35 hf => ?_)
    · refine mg_sub (lv' := [(0, .ref v0)]) (by simp) ?_
      exact wX12_take_52 C hRm hd hn hk hw hf
    · refine mg_aload_n C rfl rfl ?_
      refine mg_iload_n C rfl rfl ?_
      refine mg_aload_n C rfl rfl ?_
      refine mh_gR C rfl rfl rfl (by decide) hf (fun x9 hf => ?_)
      refine mg_iconst (v := 0) C rfl (by decide) ?_
      refine mh_aI C rfl hf (fun x10 hf => ?_)
      refine mh_cVI (M' := qX12_whyNow) C rfl rfl aX12_whyNow iX12_whyNow sX12_whyNow hRm (by omega) (by decide) (by omega) (by omega) rfl rfl rfl (Nat.le_of_ble_eq_true rfl) rfl hf (fun hs => wX12_whyNow (by omega) (by omega) hs) (fun r11 c12 hf => ?_)
      refine mh_if_eq C rfl hf (fun e_49 hf => ?_) (fun e_49 hf => ?_)
      · refine mg_aload_n C rfl rfl ?_
        refine mh_cVU (M' := qX12_keep) C rfl rfl aX12_keep iX12_keep sX12_keep hRm (by omega) (by decide) (by omega) (by omega) rfl rfl rfl (Nat.le_of_ble_eq_true rfl) rfl hf (fun hs => wX12_keep (by omega) (by omega) hs) (fun c13 hf => ?_)
        refine mg_aload_n C rfl rfl ?_
        refine mg_iload_n C rfl rfl ?_
        refine mh_cVI (M' := qX12_takes) C rfl rfl aX12_takes iX12_takes sX12_takes hRm (by omega) (by decide) (by omega) (by omega) rfl rfl rfl (Nat.le_of_ble_eq_true rfl) rfl hf (fun hs => wX12_takes (by omega) (by omega) hs) (fun r14 c15 hf => ?_)
        refine mh_if_eq C rfl hf (fun e_67 hf => ?_) (fun e_67 hf => ?_)
        · refine mg_iconst (v := 0) C rfl (by decide) ?_
          exact mh_ireturn C rfl (by omega) (by omega) rfl hf
        · refine mg_iconst (v := 1) C rfl (by decide) ?_
          refine mg_goto C rfl ?_
          exact mh_ireturn C rfl (by omega) (by omega) rfl hf
      · refine mg_sub (lv' := [(0, .ref v0)]) (by simp) ?_
        exact wX12_take_52 C hRm hd hn hk hw hf
  · refine mg_aload_n C rfl rfl ?_
    refine mg_iconst (v := 1) C rfl (by decide) ?_
    refine mh_cVI (M' := qX12_fail) C rfl rfl aX12_fail iX12_fail sX12_fail hRm (by omega) (by decide) (by omega) (by omega) rfl rfl rfl (Nat.le_of_ble_eq_true rfl) rfl hf (fun hs => wX12_fail (by omega) (by omega) hs) (fun r16 c17 hf => ?_)
    exact mh_ireturn C rfl (by omega) (by omega) rfl hf
def fX12_take (N : Nat) (v0 : Nat) (v1 : Int32) (c : mm_C) : mR Int32 := bX12_take_0 N v0 v1 c
set_option maxRecDepth 100000 in
theorem wX12_take {Z : mm_Z} {d n N : Nat} (hd : 4 ≤ d) (hn : n + 1 < 1000000) {v0 : Nat} {v1 : Int32} {c : mm_C} (hs : (fX12_take N v0 v1 c).isSome = true) : mC Z qX12_take d 1 6 [.ref v0, .int v1] (n, c) (mP 0 ovI n (fX12_take N v0 v1 c)) := by
  refine mC_of gX12_take (by decide +kernel) (Nat.le_of_ble_eq_true rfl) fun X C hRm => ?_
  have hf := hO_mP 0 ovI n hs
  have hk : 0 + 1 ≤ 1 := Nat.le_of_ble_eq_true rfl
  have hw : 0 + 6 ≤ 6 := Nat.le_of_ble_eq_true rfl
  show mG _ _ _ _ _ _ _ _ (0, [(0, .ref v0), (1, .int v1)], [], (n, c))
  exact wX12_take_0 C hRm hd hn hk hw hf
def bX12_await_34 (N : Nat)  (v0 : Nat) (c : mm_C) : mR Int32 :=
  cV 12 v0 c (fX12_refuse N v0 (1 : Int32) c) fun r1 c2 => some (.inl r1, c2)
set_option maxRecDepth 100000 in
theorem wX12_await_34 {Z : mm_Z} {X : mm_T} {k w mc ms d n N : Nat} {Q : mm_O → mm_H → Prop} (C : mm_Ok Z qX12_await X) (hRm : mt_R X = mm_rm d mc ms) (hd : 3 ≤ d) (hn : n + 1 < 1000000) (hk : k + 1 ≤ mc) (hw : w + 6 ≤ ms) {v0 : Nat} {c : mm_C} (hf : hO 0 ovI n (bX12_await_34 N  v0 c) Q) : mG Z qX12_await X k w mc ms Q (34, [(0, .ref v0)], [], (n, c)) := by
  unfold bX12_await_34 at hf
  refine mg_aload_n C rfl rfl ?_
  refine mg_iconst (v := 1) C rfl (by decide) ?_
  refine mh_cVI (M' := qX12_refuse) C rfl rfl aX12_refuse iX12_refuse sX12_refuse hRm (by omega) (by decide) (by omega) (by omega) rfl rfl rfl (Nat.le_of_ble_eq_true rfl) rfl hf (fun hs => wX12_refuse (by omega) (by omega) hs) (fun r1 c2 hf => ?_)
  exact mh_ireturn C rfl (by omega) (by omega) rfl hf
def bX12_await_0 (N : Nat)  (v0 : Nat) (v1 : Int32) (c : mm_C) : mR Int32 :=
  Option.bind (pI c v0 12 2 (0 : Int32)) fun c1 => cS (fX12_isIn N v1.toInt64 (1 : Int64) (60 : Int64) c1) fun r2 c3 => if r2 = 0 then (bX12_await_34 N  v0 c3) else (Option.bind (gR c3 v0 12 26) fun x4 => Option.bind (aI c3 x4 (0 : Int32)) fun x5 => Option.bind (gR c3 v0 12 3) fun x6 => Option.bind (aI c3 x6 (1 : Int32)) fun x7 => if (x5 + v1) ≤ x7 then (cV 12 v0 c3 (fX12_keep N v0 c3) fun (_ : Unit) c8 => Option.bind (gR c8 v0 12 26) fun x9 => Option.bind (aI c8 x9 (0 : Int32)) fun x10 => Option.bind (tI c8 x9 (0 : Int32) (x10 + v1)) fun c11 => Option.bind (gR c11 v0 12 26) fun x12 => Option.bind (aI c11 x12 (3 : Int32)) fun x13 => Option.bind (tI c11 x12 (3 : Int32) (x13 + v1)) fun c14 => Option.bind (gR c14 v0 12 26) fun x15 => Option.bind (aI c14 x15 (0 : Int32)) fun x16 => some (.inl x16, c14)) else (bX12_await_34 N  v0 c3))
set_option maxRecDepth 100000 in
theorem wX12_await_0 {Z : mm_Z} {X : mm_T} {k w mc ms d n N : Nat} {Q : mm_O → mm_H → Prop} (C : mm_Ok Z qX12_await X) (hRm : mt_R X = mm_rm d mc ms) (hd : 3 ≤ d) (hn : n + 1 < 1000000) (hk : k + 1 ≤ mc) (hw : w + 6 ≤ ms) {v0 : Nat} {v1 : Int32} {c : mm_C} (hf : hO 0 ovI n (bX12_await_0 N  v0 v1 c) Q) : mG Z qX12_await X k w mc ms Q (0, [(0, .ref v0), (1, .int v1)], [], (n, c)) := by
  unfold bX12_await_0 at hf
  refine mg_aload_n C rfl rfl ?_
  refine mg_iconst (v := 0) C rfl (by decide) ?_
  refine mh_pI C rfl rfl rfl (by decide) rfl rfl rfl hf (fun c1 hf => ?_)
  refine mg_iload_n C rfl rfl ?_
  refine mg_i2l C rfl ?_
  refine mg_lconst (v := 1) C rfl (by decide) ?_
  refine mg_ldc2_w C rfl rfl ?_
  refine mh_cSI (M' := qX12_isIn) C rfl rfl aX12_isIn tX12_isIn hRm (by omega) (by decide) (by omega) (by omega) rfl rfl (Nat.le_of_ble_eq_true rfl) rfl hf (fun hs => wX12_isIn (by omega) (by omega) hs) (fun r2 c3 hf => ?_)
  refine mh_if_eq C rfl hf (fun e_14 hf => ?_) (fun e_14 hf => ?_)
  · refine mg_sub (lv' := [(0, .ref v0)]) (by simp) ?_
    exact wX12_await_34 C hRm hd hn hk hw hf
  · refine mg_aload_n C rfl rfl ?_
    refine mh_gR C rfl rfl rfl (by decide) hf (fun x4 hf => ?_)
    refine mg_iconst (v := 0) C rfl (by decide) ?_
    refine mh_aI C rfl hf (fun x5 hf => ?_)
    refine mg_iload_n C rfl rfl ?_
    refine mg_iadd C rfl ?_
    refine mg_aload_n C rfl rfl ?_
    refine mh_gR C rfl rfl rfl (by decide) hf (fun x6 hf => ?_)
    refine mg_iconst (v := 1) C rfl (by decide) ?_
    refine mh_aI C rfl hf (fun x7 hf => ?_)
    refine mh_icmp_le C rfl hf (fun e_31 hf => ?_) (fun e_31 hf => ?_)
    · refine mg_aload_n C rfl rfl ?_
      refine mh_cVU (M' := qX12_keep) C rfl rfl aX12_keep iX12_keep sX12_keep hRm (by omega) (by decide) (by omega) (by omega) rfl rfl rfl (Nat.le_of_ble_eq_true rfl) rfl hf (fun hs => wX12_keep (by omega) (by omega) hs) (fun c8 hf => ?_)
      refine mg_aload_n C rfl rfl ?_
      refine mh_gR C rfl rfl rfl (by decide) hf (fun x9 hf => ?_)
      refine mg_iconst (v := 0) C rfl (by decide) ?_
      refine mg_dup2 C rfl rfl rfl ?_
      refine mh_aI C rfl hf (fun x10 hf => ?_)
      refine mg_iload_n C rfl rfl ?_
      refine mg_iadd C rfl ?_
      refine mh_tI C rfl hf (fun c11 hf => ?_)
      refine mg_aload_n C rfl rfl ?_
      refine mh_gR C rfl rfl rfl (by decide) hf (fun x12 hf => ?_)
      refine mg_iconst (v := 3) C rfl (by decide) ?_
      refine mg_dup2 C rfl rfl rfl ?_
      refine mh_aI C rfl hf (fun x13 hf => ?_)
      refine mg_iload_n C rfl rfl ?_
      refine mg_iadd C rfl ?_
      refine mh_tI C rfl hf (fun c14 hf => ?_)
      refine mg_aload_n C rfl rfl ?_
      refine mh_gR C rfl rfl rfl (by decide) hf (fun x15 hf => ?_)
      refine mg_iconst (v := 0) C rfl (by decide) ?_
      refine mh_aI C rfl hf (fun x16 hf => ?_)
      exact mh_ireturn C rfl (by omega) (by omega) rfl hf
    · refine mg_sub (lv' := [(0, .ref v0)]) (by simp) ?_
      exact wX12_await_34 C hRm hd hn hk hw hf
def fX12_await (N : Nat) (v0 : Nat) (v1 : Int32) (c : mm_C) : mR Int32 := bX12_await_0 N v0 v1 c
set_option maxRecDepth 100000 in
theorem wX12_await {Z : mm_Z} {d n N : Nat} (hd : 3 ≤ d) (hn : n + 1 < 1000000) {v0 : Nat} {v1 : Int32} {c : mm_C} (hs : (fX12_await N v0 v1 c).isSome = true) : mC Z qX12_await d 1 6 [.ref v0, .int v1] (n, c) (mP 0 ovI n (fX12_await N v0 v1 c)) := by
  refine mC_of gX12_await (by decide +kernel) (Nat.le_of_ble_eq_true rfl) fun X C hRm => ?_
  have hf := hO_mP 0 ovI n hs
  have hk : 0 + 1 ≤ 1 := Nat.le_of_ble_eq_true rfl
  have hw : 0 + 6 ≤ 6 := Nat.le_of_ble_eq_true rfl
  show mG _ _ _ _ _ _ _ _ (0, [(0, .ref v0), (1, .int v1)], [], (n, c))
  exact wX12_await_0 C hRm hd hn hk hw hf
def bX12_move_46 (N : Nat)  (v0 : Nat) (c : mm_C) : mR Int32 :=
  cV 12 v0 c (fX12_refuse N v0 (1 : Int32) c) fun r1 c2 => some (.inl r1, c2)
set_option maxRecDepth 100000 in
theorem wX12_move_46 {Z : mm_Z} {X : mm_T} {k w mc ms d n N : Nat} {Q : mm_O → mm_H → Prop} (C : mm_Ok Z qX12_move X) (hRm : mt_R X = mm_rm d mc ms) (hd : 3 ≤ d) (hn : n + 1 < 1000000) (hk : k + 1 ≤ mc) (hw : w + 6 ≤ ms) {v0 : Nat} {c : mm_C} (hf : hO 0 ovI n (bX12_move_46 N  v0 c) Q) : mG Z qX12_move X k w mc ms Q (46, [(0, .ref v0)], [], (n, c)) := by
  unfold bX12_move_46 at hf
  refine mg_aload_n C rfl rfl ?_
  refine mg_iconst (v := 1) C rfl (by decide) ?_
  refine mh_cVI (M' := qX12_refuse) C rfl rfl aX12_refuse iX12_refuse sX12_refuse hRm (by omega) (by decide) (by omega) (by omega) rfl rfl rfl (Nat.le_of_ble_eq_true rfl) rfl hf (fun hs => wX12_refuse (by omega) (by omega) hs) (fun r1 c2 hf => ?_)
  exact mh_ireturn C rfl (by omega) (by omega) rfl hf
def bX12_move_20 (N : Nat)  (v0 : Nat) (v1 : Int32) (s0 : Int32) (c : mm_C) : mR Int32 :=
  if s0 = v1 then (bX12_move_46 N  v0 c) else (Option.bind (gR c v0 12 26) fun x1 => Option.bind (aI c x1 (0 : Int32)) fun x2 => Option.bind (gR c v0 12 3) fun x3 => Option.bind (aI c x3 (2 : Int32)) fun x4 => Option.bind (gR c v0 12 3) fun x5 => Option.bind (aI c x5 (1 : Int32)) fun x6 => if (x2 + x4) ≤ x6 then (cV 12 v0 c (fX12_keep N v0 c) fun (_ : Unit) c7 => cV 12 v0 c7 (fX12_moves N v0 c7) fun (_ : Unit) c8 => Option.bind (gR c8 v0 12 26) fun x9 => Option.bind (aI c8 x9 (0 : Int32)) fun x10 => some (.inl x10, c8)) else (bX12_move_46 N  v0 c))
set_option maxRecDepth 100000 in
theorem wX12_move_20 {Z : mm_Z} {X : mm_T} {k w mc ms d n N : Nat} {Q : mm_O → mm_H → Prop} (C : mm_Ok Z qX12_move X) (hRm : mt_R X = mm_rm d mc ms) (hd : 3 ≤ d) (hn : n + 1 < 1000000) (hk : k + 1 ≤ mc) (hw : w + 6 ≤ ms) {v0 : Nat} {v1 : Int32} {s0 : Int32} {c : mm_C} (hf : hO 0 ovI n (bX12_move_20 N  v0 v1 s0 c) Q) : mG Z qX12_move X k w mc ms Q (20, [(0, .ref v0), (1, .int v1)], [.int s0], (n, c)) := by
  unfold bX12_move_20 at hf
  refine mg_iload_n C rfl rfl ?_
  refine mh_icmp_eq C rfl hf (fun e_21 hf => ?_) (fun e_21 hf => ?_)
  · refine mg_sub (lv' := [(0, .ref v0)]) (by simp) ?_
    exact wX12_move_46 C hRm hd hn hk hw hf
  · refine mg_aload_n C rfl rfl ?_
    refine mh_gR C rfl rfl rfl (by decide) hf (fun x1 hf => ?_)
    refine mg_iconst (v := 0) C rfl (by decide) ?_
    refine mh_aI C rfl hf (fun x2 hf => ?_)
    refine mg_aload_n C rfl rfl ?_
    refine mh_gR C rfl rfl rfl (by decide) hf (fun x3 hf => ?_)
    refine mg_iconst (v := 2) C rfl (by decide) ?_
    refine mh_aI C rfl hf (fun x4 hf => ?_)
    refine mg_iadd C rfl ?_
    refine mg_aload_n C rfl rfl ?_
    refine mh_gR C rfl rfl rfl (by decide) hf (fun x5 hf => ?_)
    refine mg_iconst (v := 1) C rfl (by decide) ?_
    refine mh_aI C rfl hf (fun x6 hf => ?_)
    refine mh_icmp_le C rfl hf (fun e_43 hf => ?_) (fun e_43 hf => ?_)
    · refine mg_aload_n C rfl rfl ?_
      refine mh_cVU (M' := qX12_keep) C rfl rfl aX12_keep iX12_keep sX12_keep hRm (by omega) (by decide) (by omega) (by omega) rfl rfl rfl (Nat.le_of_ble_eq_true rfl) rfl hf (fun hs => wX12_keep (by omega) (by omega) hs) (fun c7 hf => ?_)
      refine mg_aload_n C rfl rfl ?_
      refine mh_cVU (M' := qX12_moves) C rfl rfl aX12_moves iX12_moves sX12_moves hRm (by omega) (by decide) (by omega) (by omega) rfl rfl rfl (Nat.le_of_ble_eq_true rfl) rfl hf (fun hs => wX12_moves (by omega) (by omega) hs) (fun c8 hf => ?_)
      refine mg_aload_n C rfl rfl ?_
      refine mh_gR C rfl rfl rfl (by decide) hf (fun x9 hf => ?_)
      refine mg_iconst (v := 0) C rfl (by decide) ?_
      refine mh_aI C rfl hf (fun x10 hf => ?_)
      exact mh_ireturn C rfl (by omega) (by omega) rfl hf
    · refine mg_sub (lv' := [(0, .ref v0)]) (by simp) ?_
      exact wX12_move_46 C hRm hd hn hk hw hf
def bX12_move_0 (N : Nat)  (v0 : Nat) (v1 : Int32) (c : mm_C) : mR Int32 :=
  Option.bind (pI c v0 12 2 (0 : Int32)) fun c1 => Option.bind (gR c1 v0 12 26) fun x2 => Option.bind (aI c1 x2 (1 : Int32)) fun x3 => if ¬ x3 = (1 : Int32) then (bX12_move_20 N  v0 v1 (0 : Int32) c1) else (bX12_move_20 N  v0 v1 (1 : Int32) c1)
set_option maxRecDepth 100000 in
theorem wX12_move_0 {Z : mm_Z} {X : mm_T} {k w mc ms d n N : Nat} {Q : mm_O → mm_H → Prop} (C : mm_Ok Z qX12_move X) (hRm : mt_R X = mm_rm d mc ms) (hd : 3 ≤ d) (hn : n + 1 < 1000000) (hk : k + 1 ≤ mc) (hw : w + 6 ≤ ms) {v0 : Nat} {v1 : Int32} {c : mm_C} (hf : hO 0 ovI n (bX12_move_0 N  v0 v1 c) Q) : mG Z qX12_move X k w mc ms Q (0, [(0, .ref v0), (1, .int v1)], [], (n, c)) := by
  unfold bX12_move_0 at hf
  refine mg_aload_n C rfl rfl ?_
  refine mg_iconst (v := 0) C rfl (by decide) ?_
  refine mh_pI C rfl rfl rfl (by decide) rfl rfl rfl hf (fun c1 hf => ?_)
  refine mg_aload_n C rfl rfl ?_
  refine mh_gR C rfl rfl rfl (by decide) hf (fun x2 hf => ?_)
  refine mg_iconst (v := 1) C rfl (by decide) ?_
  refine mh_aI C rfl hf (fun x3 hf => ?_)
  refine mg_iconst (v := 1) C rfl (by decide) ?_
  refine mh_icmp_ne C rfl hf (fun e_12 hf => ?_) (fun e_12 hf => ?_)
  · refine mg_iconst (v := 0) C rfl (by decide) ?_
    exact wX12_move_20 C hRm hd hn hk hw hf
  · refine mg_iconst (v := 1) C rfl (by decide) ?_
    refine mg_goto C rfl ?_
    exact wX12_move_20 C hRm hd hn hk hw hf
def fX12_move (N : Nat) (v0 : Nat) (v1 : Int32) (c : mm_C) : mR Int32 := bX12_move_0 N v0 v1 c
set_option maxRecDepth 100000 in
theorem wX12_move {Z : mm_Z} {d n N : Nat} (hd : 3 ≤ d) (hn : n + 1 < 1000000) {v0 : Nat} {v1 : Int32} {c : mm_C} (hs : (fX12_move N v0 v1 c).isSome = true) : mC Z qX12_move d 1 6 [.ref v0, .int v1] (n, c) (mP 0 ovI n (fX12_move N v0 v1 c)) := by
  refine mC_of gX12_move (by decide +kernel) (Nat.le_of_ble_eq_true rfl) fun X C hRm => ?_
  have hf := hO_mP 0 ovI n hs
  have hk : 0 + 1 ≤ 1 := Nat.le_of_ble_eq_true rfl
  have hw : 0 + 6 ≤ 6 := Nat.le_of_ble_eq_true rfl
  show mG _ _ _ _ _ _ _ _ (0, [(0, .ref v0), (1, .int v1)], [], (n, c))
  exact wX12_move_0 C hRm hd hn hk hw hf
def bX12_sets_59 (N : Nat)  (v3 : Int32) (s0 : Nat) (s1 : Int32) (s2 : Int32) (c : mm_C) : mR Int32 :=
  Option.bind (tI c s0 s1 s2) fun c1 => rZ v3 c1
set_option maxRecDepth 100000 in
theorem wX12_sets_59 {Z : mm_Z} {X : mm_T} {k w mc ms d n N : Nat} {Q : mm_O → mm_H → Prop} (C : mm_Ok Z qX12_sets X) (hRm : mt_R X = mm_rm d mc ms) (hd : 3 ≤ d) (hn : n + 1 < 1000000) (hk : k + 1 ≤ mc) (hw : w + 6 ≤ ms) {v3 : Int32} {s0 : Nat} {s1 : Int32} {s2 : Int32} {c : mm_C} (hf : hO 0 ovI n (bX12_sets_59 N  v3 s0 s1 s2 c) Q) : mG Z qX12_sets X k w mc ms Q (59, [(3, .int v3)], [.int s2, .int s1, .ref s0], (n, c)) := by
  unfold bX12_sets_59 at hf
  refine mh_tI C rfl hf (fun c1 hf => ?_)
  refine mg_iload_n C rfl rfl ?_
  exact mh_zreturn C rfl (by omega) (by omega) rfl hf
def bX12_sets_42 (N : Nat)  (v0 : Nat) (v1 : Int32) (v2 : Int32) (s0 : Int32) (c : mm_C) : mR Int32 :=
  Option.bind (gR c v0 12 26) fun x1 => if v2 = 0 then (bX12_sets_59 N  s0 x1 ((5 : Int32) + v1) (0 : Int32) c) else (bX12_sets_59 N  s0 x1 ((5 : Int32) + v1) (1 : Int32) c)
set_option maxRecDepth 100000 in
theorem wX12_sets_42 {Z : mm_Z} {X : mm_T} {k w mc ms d n N : Nat} {Q : mm_O → mm_H → Prop} (C : mm_Ok Z qX12_sets X) (hRm : mt_R X = mm_rm d mc ms) (hd : 3 ≤ d) (hn : n + 1 < 1000000) (hk : k + 1 ≤ mc) (hw : w + 6 ≤ ms) {v0 : Nat} {v1 : Int32} {v2 : Int32} {s0 : Int32} {c : mm_C} (hf : hO 0 ovI n (bX12_sets_42 N  v0 v1 v2 s0 c) Q) : mG Z qX12_sets X k w mc ms Q (42, [(0, .ref v0), (1, .int v1), (2, .int v2)], [.int s0], (n, c)) := by
  unfold bX12_sets_42 at hf
  refine mg_istore_n (lv' := [(0, .ref v0), (1, .int v1), (2, .int v2), (3, .int s0)]) C rfl (Nat.le_of_ble_eq_true rfl) rfl ?_
  refine mg_aload_n C rfl rfl ?_
  refine mh_gR C rfl rfl rfl (by decide) hf (fun x1 hf => ?_)
  refine mg_iconst (v := 5) C rfl (by decide) ?_
  refine mg_iload_n C rfl rfl ?_
  refine mg_iadd C rfl ?_
  refine mg_iload_n C rfl rfl ?_
  refine mh_if_eq C rfl hf (fun e_51 hf => ?_) (fun e_51 hf => ?_)
  · refine mg_iconst (v := 0) C rfl (by decide) ?_
    refine mg_sub (lv' := [(3, .int s0)]) (by simp) ?_
    exact wX12_sets_59 C hRm hd hn hk hw hf
  · refine mg_iconst (v := 1) C rfl (by decide) ?_
    refine mg_goto C rfl ?_
    refine mg_sub (lv' := [(3, .int s0)]) (by simp) ?_
    exact wX12_sets_59 C hRm hd hn hk hw hf
def bX12_sets_14 (N : Nat)  (v0 : Nat) (c : mm_C) : mR Int32 :=
  Option.bind (pI c v0 12 2 (1 : Int32)) fun c1 => rZ (0 : Int32) c1
set_option maxRecDepth 100000 in
theorem wX12_sets_14 {Z : mm_Z} {X : mm_T} {k w mc ms d n N : Nat} {Q : mm_O → mm_H → Prop} (C : mm_Ok Z qX12_sets X) (hRm : mt_R X = mm_rm d mc ms) (hd : 3 ≤ d) (hn : n + 1 < 1000000) (hk : k + 1 ≤ mc) (hw : w + 6 ≤ ms) {v0 : Nat} {c : mm_C} (hf : hO 0 ovI n (bX12_sets_14 N  v0 c) Q) : mG Z qX12_sets X k w mc ms Q (14, [(0, .ref v0)], [], (n, c)) := by
  unfold bX12_sets_14 at hf
  refine mg_aload_n C rfl rfl ?_
  refine mg_iconst (v := 1) C rfl (by decide) ?_
  refine mh_pI C rfl rfl rfl (by decide) rfl rfl rfl hf (fun c1 hf => ?_)
  refine mg_iconst (v := 0) C rfl (by decide) ?_
  exact mh_zreturn C rfl (by omega) (by omega) rfl hf
def bX12_sets_0 (N : Nat)  (v0 : Nat) (v1 : Int32) (v2 : Int32) (c : mm_C) : mR Int32 :=
  Option.bind (pI c v0 12 2 (0 : Int32)) fun c1 => if v1 < 0 then (bX12_sets_14 N  v0 c1) else (if v1 ≤ (1 : Int32) then (cV 12 v0 c1 (fX12_keep N v0 c1) fun (_ : Unit) c2 => Option.bind (gR c2 v0 12 26) fun x3 => Option.bind (aI c2 x3 ((5 : Int32) + v1)) fun x4 => if ¬ x4 = (1 : Int32) then (bX12_sets_42 N  v0 v1 v2 (0 : Int32) c2) else (bX12_sets_42 N  v0 v1 v2 (1 : Int32) c2)) else (bX12_sets_14 N  v0 c1))
set_option maxRecDepth 100000 in
theorem wX12_sets_0 {Z : mm_Z} {X : mm_T} {k w mc ms d n N : Nat} {Q : mm_O → mm_H → Prop} (C : mm_Ok Z qX12_sets X) (hRm : mt_R X = mm_rm d mc ms) (hd : 3 ≤ d) (hn : n + 1 < 1000000) (hk : k + 1 ≤ mc) (hw : w + 6 ≤ ms) {v0 : Nat} {v1 : Int32} {v2 : Int32} {c : mm_C} (hf : hO 0 ovI n (bX12_sets_0 N  v0 v1 v2 c) Q) : mG Z qX12_sets X k w mc ms Q (0, [(0, .ref v0), (1, .int v1), (2, .int v2)], [], (n, c)) := by
  unfold bX12_sets_0 at hf
  refine mg_aload_n C rfl rfl ?_
  refine mg_iconst (v := 0) C rfl (by decide) ?_
  refine mh_pI C rfl rfl rfl (by decide) rfl rfl rfl hf (fun c1 hf => ?_)
  refine mg_iload_n C rfl rfl ?_
  refine mh_if_lt C rfl hf (fun e_6 hf => ?_) (fun e_6 hf => ?_)
  · refine mg_sub (lv' := [(0, .ref v0)]) (by simp) ?_
    exact wX12_sets_14 C hRm hd hn hk hw hf
  · refine mg_iload_n C rfl rfl ?_
    refine mg_iconst (v := 1) C rfl (by decide) ?_
    refine mh_icmp_le C rfl hf (fun e_11 hf => ?_) (fun e_11 hf => ?_)
    · refine mg_aload_n C rfl rfl ?_
      refine mh_cVU (M' := qX12_keep) C rfl rfl aX12_keep iX12_keep sX12_keep hRm (by omega) (by decide) (by omega) (by omega) rfl rfl rfl (Nat.le_of_ble_eq_true rfl) rfl hf (fun hs => wX12_keep (by omega) (by omega) hs) (fun c2 hf => ?_)
      refine mg_aload_n C rfl rfl ?_
      refine mh_gR C rfl rfl rfl (by decide) hf (fun x3 hf => ?_)
      refine mg_iconst (v := 5) C rfl (by decide) ?_
      refine mg_iload_n C rfl rfl ?_
      refine mg_iadd C rfl ?_
      refine mh_aI C rfl hf (fun x4 hf => ?_)
      refine mg_iconst (v := 1) C rfl (by decide) ?_
      refine mh_icmp_ne C rfl hf (fun e_34 hf => ?_) (fun e_34 hf => ?_)
      · refine mg_iconst (v := 0) C rfl (by decide) ?_
        exact wX12_sets_42 C hRm hd hn hk hw hf
      · refine mg_iconst (v := 1) C rfl (by decide) ?_
        refine mg_goto C rfl ?_
        exact wX12_sets_42 C hRm hd hn hk hw hf
    · refine mg_sub (lv' := [(0, .ref v0)]) (by simp) ?_
      exact wX12_sets_14 C hRm hd hn hk hw hf
def fX12_sets (N : Nat) (v0 : Nat) (v1 : Int32) (v2 : Int32) (c : mm_C) : mR Int32 := bX12_sets_0 N v0 v1 v2 c
set_option maxRecDepth 100000 in
theorem wX12_sets {Z : mm_Z} {d n N : Nat} (hd : 3 ≤ d) (hn : n + 1 < 1000000) {v0 : Nat} {v1 : Int32} {v2 : Int32} {c : mm_C} (hs : (fX12_sets N v0 v1 v2 c).isSome = true) : mC Z qX12_sets d 1 6 [.ref v0, .int v1, .int v2] (n, c) (mP 0 ovI n (fX12_sets N v0 v1 v2 c)) := by
  refine mC_of gX12_sets (by decide +kernel) (Nat.le_of_ble_eq_true rfl) fun X C hRm => ?_
  have hf := hO_mP 0 ovI n hs
  have hk : 0 + 1 ≤ 1 := Nat.le_of_ble_eq_true rfl
  have hw : 0 + 6 ≤ 6 := Nat.le_of_ble_eq_true rfl
  show mG _ _ _ _ _ _ _ _ (0, [(0, .ref v0), (1, .int v1), (2, .int v2)], [], (n, c))
  exact wX12_sets_0 C hRm hd hn hk hw hf
def bX12_clouds_105 (N : Nat)  (v4 : Int32) (c : mm_C) : mR Int32 :=
  some (.inl v4, c)
set_option maxRecDepth 100000 in
theorem wX12_clouds_105 {Z : mm_Z} {X : mm_T} {k w mc ms d n N : Nat} {Q : mm_O → mm_H → Prop} (C : mm_Ok Z qX12_clouds X) (hRm : mt_R X = mm_rm d mc ms) (hd : 3 ≤ d) (hn : n + 1 < 1000000) (hk : k + 1 ≤ mc) (hw : w + 6 ≤ ms) {v4 : Int32} {c : mm_C} (hf : hO 0 ovI n (bX12_clouds_105 N  v4 c) Q) : mG Z qX12_clouds X k w mc ms Q (105, [(4, .int v4)], [], (n, c)) := by
  unfold bX12_clouds_105 at hf
  refine mg_iload C rfl rfl ?_
  exact mh_ireturn C rfl (by omega) (by omega) rfl hf
def bX12_clouds_98 (N : Nat)  (k48 : Nat → Int32 → Int32 → Int32 → Int32 → mm_C → mR Int32) (v0 : Nat) (v2 : Int32) (v3 : Int32) (v4 : Int32) (v5 : Int32) (s0 : Nat) (s1 : Int32) (s2 : Int32) (c : mm_C) : mR Int32 :=
  Option.bind (tI c s0 s1 s2) fun c1 => k48 v0 v2 v3 v4 (v5 + 1) c1
set_option maxRecDepth 100000 in
theorem wX12_clouds_98 {Z : mm_Z} {X : mm_T} {k w mc ms d n N : Nat} {Q : mm_O → mm_H → Prop} (C : mm_Ok Z qX12_clouds X) (hRm : mt_R X = mm_rm d mc ms) (hd : 3 ≤ d) (hn : n + 1 < 1000000) (hk : k + 1 ≤ mc) (hw : w + 6 ≤ ms) {k48 : Nat → Int32 → Int32 → Int32 → Int32 → mm_C → mR Int32} (hk48 : ∀ (v0 : Nat) (v2 : Int32) (v3 : Int32) (v4 : Int32) (v5 : Int32) (c : mm_C), hO 0 ovI n (k48 v0 v2 v3 v4 v5 c) Q → mG Z qX12_clouds X k w mc ms Q (48, [(0, .ref v0), (2, .int v2), (3, .int v3), (4, .int v4), (5, .int v5)], [], (n, c))) {v0 : Nat} {v2 : Int32} {v3 : Int32} {v4 : Int32} {v5 : Int32} {s0 : Nat} {s1 : Int32} {s2 : Int32} {c : mm_C} (hf : hO 0 ovI n (bX12_clouds_98 N  k48 v0 v2 v3 v4 v5 s0 s1 s2 c) Q) : mG Z qX12_clouds X k w mc ms Q (98, [(0, .ref v0), (2, .int v2), (3, .int v3), (4, .int v4), (5, .int v5)], [.int s2, .int s1, .ref s0], (n, c)) := by
  unfold bX12_clouds_98 at hf
  refine mh_tI C rfl hf (fun c1 hf => ?_)
  refine mg_iinc (lv' := [(0, .ref v0), (2, .int v2), (3, .int v3), (4, .int v4), (5, .int (v5 + 1))]) C rfl (Nat.le_of_ble_eq_true rfl) rfl (show _ + Int32.ofInt 1 = _ + 1 by congr 1) rfl ?_
  refine mg_goto C rfl ?_
  exact hk48 _ _ _ _ _ _ hf
def bX12_clouds_80 (N : Nat)  (k48 : Nat → Int32 → Int32 → Int32 → Int32 → mm_C → mR Int32) (v0 : Nat) (v2 : Int32) (v3 : Int32) (v5 : Int32) (s0 : Int32) (s1 : Int32) (c : mm_C) : mR Int32 :=
  Option.bind (gR c v0 12 10) fun x1 => if v3 = 0 then (bX12_clouds_98 N  k48 v0 v2 v3 (s0 + s1) v5 x1 v5 (0 : Int32) c) else (bX12_clouds_98 N  k48 v0 v2 v3 (s0 + s1) v5 x1 v5 (1 : Int32) c)
set_option maxRecDepth 100000 in
theorem wX12_clouds_80 {Z : mm_Z} {X : mm_T} {k w mc ms d n N : Nat} {Q : mm_O → mm_H → Prop} (C : mm_Ok Z qX12_clouds X) (hRm : mt_R X = mm_rm d mc ms) (hd : 3 ≤ d) (hn : n + 1 < 1000000) (hk : k + 1 ≤ mc) (hw : w + 6 ≤ ms) {k48 : Nat → Int32 → Int32 → Int32 → Int32 → mm_C → mR Int32} (hk48 : ∀ (v0 : Nat) (v2 : Int32) (v3 : Int32) (v4 : Int32) (v5 : Int32) (c : mm_C), hO 0 ovI n (k48 v0 v2 v3 v4 v5 c) Q → mG Z qX12_clouds X k w mc ms Q (48, [(0, .ref v0), (2, .int v2), (3, .int v3), (4, .int v4), (5, .int v5)], [], (n, c))) {v0 : Nat} {v2 : Int32} {v3 : Int32} {v5 : Int32} {s0 : Int32} {s1 : Int32} {c : mm_C} (hf : hO 0 ovI n (bX12_clouds_80 N  k48 v0 v2 v3 v5 s0 s1 c) Q) : mG Z qX12_clouds X k w mc ms Q (80, [(0, .ref v0), (2, .int v2), (3, .int v3), (5, .int v5)], [.int s1, .int s0], (n, c)) := by
  unfold bX12_clouds_80 at hf
  refine mg_iadd C rfl ?_
  refine mg_istore (lv' := [(0, .ref v0), (2, .int v2), (3, .int v3), (4, .int (s0 + s1)), (5, .int v5)]) C rfl (Nat.le_of_ble_eq_true rfl) rfl ?_
  refine mg_aload_n C rfl rfl ?_
  refine mh_gR C rfl rfl rfl (by decide) hf (fun x1 hf => ?_)
  refine mg_iload C rfl rfl ?_
  refine mg_iload_n C rfl rfl ?_
  refine mh_if_eq C rfl hf (fun e_90 hf => ?_) (fun e_90 hf => ?_)
  · refine mg_iconst (v := 0) C rfl (by decide) ?_
    exact wX12_clouds_98 C hRm hd hn hk hw hk48 hf
  · refine mg_iconst (v := 1) C rfl (by decide) ?_
    refine mg_goto C rfl ?_
    exact wX12_clouds_98 C hRm hd hn hk hw hk48 hf
def bX12_clouds_72 (N : Nat)  (k48 : Nat → Int32 → Int32 → Int32 → Int32 → mm_C → mR Int32) (v0 : Nat) (v2 : Int32) (v3 : Int32) (v5 : Int32) (s0 : Int32) (s1 : Int32) (s2 : Int32) (c : mm_C) : mR Int32 :=
  if ¬ s1 = s2 then (bX12_clouds_80 N  k48 v0 v2 v3 v5 s0 (1 : Int32) c) else (bX12_clouds_80 N  k48 v0 v2 v3 v5 s0 (0 : Int32) c)
set_option maxRecDepth 100000 in
theorem wX12_clouds_72 {Z : mm_Z} {X : mm_T} {k w mc ms d n N : Nat} {Q : mm_O → mm_H → Prop} (C : mm_Ok Z qX12_clouds X) (hRm : mt_R X = mm_rm d mc ms) (hd : 3 ≤ d) (hn : n + 1 < 1000000) (hk : k + 1 ≤ mc) (hw : w + 6 ≤ ms) {k48 : Nat → Int32 → Int32 → Int32 → Int32 → mm_C → mR Int32} (hk48 : ∀ (v0 : Nat) (v2 : Int32) (v3 : Int32) (v4 : Int32) (v5 : Int32) (c : mm_C), hO 0 ovI n (k48 v0 v2 v3 v4 v5 c) Q → mG Z qX12_clouds X k w mc ms Q (48, [(0, .ref v0), (2, .int v2), (3, .int v3), (4, .int v4), (5, .int v5)], [], (n, c))) {v0 : Nat} {v2 : Int32} {v3 : Int32} {v5 : Int32} {s0 : Int32} {s1 : Int32} {s2 : Int32} {c : mm_C} (hf : hO 0 ovI n (bX12_clouds_72 N  k48 v0 v2 v3 v5 s0 s1 s2 c) Q) : mG Z qX12_clouds X k w mc ms Q (72, [(0, .ref v0), (2, .int v2), (3, .int v3), (5, .int v5)], [.int s2, .int s1, .int s0], (n, c)) := by
  unfold bX12_clouds_72 at hf
  refine mh_icmp_ne C rfl hf (fun e_72 hf => ?_) (fun e_72 hf => ?_)
  · refine mg_iconst (v := 1) C rfl (by decide) ?_
    exact wX12_clouds_80 C hRm hd hn hk hw hk48 hf
  · refine mg_iconst (v := 0) C rfl (by decide) ?_
    refine mg_goto C rfl ?_
    exact wX12_clouds_80 C hRm hd hn hk hw hk48 hf
def bX12_clouds_48 (N : Nat)  (k48 : Nat → Int32 → Int32 → Int32 → Int32 → mm_C → mR Int32) (v0 : Nat) (v2 : Int32) (v3 : Int32) (v4 : Int32) (v5 : Int32) (c : mm_C) : mR Int32 :=
  if v2 < v5 then (bX12_clouds_105 N  v4 c) else (Option.bind (gR c v0 12 10) fun x1 => Option.bind (aI c x1 v5) fun x2 => if v3 = 0 then (bX12_clouds_72 N  k48 v0 v2 v3 v5 v4 x2 (0 : Int32) c) else (bX12_clouds_72 N  k48 v0 v2 v3 v5 v4 x2 (1 : Int32) c))
set_option maxRecDepth 100000 in
theorem wX12_clouds_48 {Z : mm_Z} {X : mm_T} {k w mc ms d n N : Nat} {Q : mm_O → mm_H → Prop} (C : mm_Ok Z qX12_clouds X) (hRm : mt_R X = mm_rm d mc ms) (hd : 3 ≤ d) (hn : n + 1 < 1000000) (hk : k + 1 ≤ mc) (hw : w + 6 ≤ ms) {k48 : Nat → Int32 → Int32 → Int32 → Int32 → mm_C → mR Int32} (hk48 : ∀ (v0 : Nat) (v2 : Int32) (v3 : Int32) (v4 : Int32) (v5 : Int32) (c : mm_C), hO 0 ovI n (k48 v0 v2 v3 v4 v5 c) Q → mG Z qX12_clouds X k w mc ms Q (48, [(0, .ref v0), (2, .int v2), (3, .int v3), (4, .int v4), (5, .int v5)], [], (n, c))) {v0 : Nat} {v2 : Int32} {v3 : Int32} {v4 : Int32} {v5 : Int32} {c : mm_C} (hf : hO 0 ovI n (bX12_clouds_48 N  k48 v0 v2 v3 v4 v5 c) Q) : mG Z qX12_clouds X k w mc ms Q (48, [(0, .ref v0), (2, .int v2), (3, .int v3), (4, .int v4), (5, .int v5)], [], (n, c)) := by
  unfold bX12_clouds_48 at hf
  refine mg_iload C rfl rfl ?_
  refine mg_iload_n C rfl rfl ?_
  refine mh_icmp_gt C rfl hf (fun e_51 hf => ?_) (fun e_51 hf => ?_)
  · refine mg_sub (lv' := [(4, .int v4)]) (by simp) ?_
    exact wX12_clouds_105 C hRm hd hn hk hw hf
  · refine mg_iload C rfl rfl ?_
    refine mg_aload_n C rfl rfl ?_
    refine mh_gR C rfl rfl rfl (by decide) hf (fun x1 hf => ?_)
    refine mg_iload C rfl rfl ?_
    refine mh_aI C rfl hf (fun x2 hf => ?_)
    refine mg_iload_n C rfl rfl ?_
    refine mh_if_eq C rfl hf (fun e_64 hf => ?_) (fun e_64 hf => ?_)
    · refine mg_iconst (v := 0) C rfl (by decide) ?_
      refine mg_sub (lv' := [(0, .ref v0), (2, .int v2), (3, .int v3), (5, .int v5)]) (by simp) ?_
      exact wX12_clouds_72 C hRm hd hn hk hw hk48 hf
    · refine mg_iconst (v := 1) C rfl (by decide) ?_
      refine mg_goto C rfl ?_
      refine mg_sub (lv' := [(0, .ref v0), (2, .int v2), (3, .int v3), (5, .int v5)]) (by simp) ?_
      exact wX12_clouds_72 C hRm hd hn hk hw hk48 hf
def lX12_clouds_48 (N : Nat)  : Nat → Nat → Int32 → Int32 → Int32 → Int32 → mm_C → mR Int32
  | 0, _, _, _, _, _, _ => none
  | m + 1, v0, v2, v3, v4, v5, c => bX12_clouds_48 N  (lX12_clouds_48 N  m) v0 v2 v3 v4 v5 c
theorem WX12_clouds_48 {Z : mm_Z} {X : mm_T} {k w mc ms d n N : Nat} {Q : mm_O → mm_H → Prop} (C : mm_Ok Z qX12_clouds X) (hRm : mt_R X = mm_rm d mc ms) (hd : 3 ≤ d) (hn : n + 1 < 1000000) (hk : k + 1 ≤ mc) (hw : w + 6 ≤ ms) : ∀ (m : Nat) {v0 : Nat} {v2 : Int32} {v3 : Int32} {v4 : Int32} {v5 : Int32} {c : mm_C} (hf : hO 0 ovI n (lX12_clouds_48 N  m v0 v2 v3 v4 v5 c) Q), mG Z qX12_clouds X k w mc ms Q (48, [(0, .ref v0), (2, .int v2), (3, .int v3), (4, .int v4), (5, .int v5)], [], (n, c)) := by
  intro m
  induction m with
  | zero => intro v0 v2 v3 v4 v5 c hf; exact absurd hf hO_none
  | succ m ih => intro v0 v2 v3 v4 v5 c hf; exact wX12_clouds_48 C hRm hd hn hk hw (fun v0 v2 v3 v4 v5 c hf => ih hf) hf
def bX12_clouds_32 (N : Nat)  (v0 : Nat) (c : mm_C) : mR Int32 :=
  cV 12 v0 c (fX12_refuse N v0 (1 : Int32) c) fun r1 c2 => some (.inl r1, c2)
set_option maxRecDepth 100000 in
theorem wX12_clouds_32 {Z : mm_Z} {X : mm_T} {k w mc ms d n N : Nat} {Q : mm_O → mm_H → Prop} (C : mm_Ok Z qX12_clouds X) (hRm : mt_R X = mm_rm d mc ms) (hd : 3 ≤ d) (hn : n + 1 < 1000000) (hk : k + 1 ≤ mc) (hw : w + 6 ≤ ms) {v0 : Nat} {c : mm_C} (hf : hO 0 ovI n (bX12_clouds_32 N  v0 c) Q) : mG Z qX12_clouds X k w mc ms Q (32, [(0, .ref v0)], [], (n, c)) := by
  unfold bX12_clouds_32 at hf
  refine mg_aload_n C rfl rfl ?_
  refine mg_iconst (v := 1) C rfl (by decide) ?_
  refine mh_cVI (M' := qX12_refuse) C rfl rfl aX12_refuse iX12_refuse sX12_refuse hRm (by omega) (by decide) (by omega) (by omega) rfl rfl rfl (Nat.le_of_ble_eq_true rfl) rfl hf (fun hs => wX12_refuse (by omega) (by omega) hs) (fun r1 c2 hf => ?_)
  exact mh_ireturn C rfl (by omega) (by omega) rfl hf
def bX12_clouds_0 (N : Nat)  (v0 : Nat) (v1 : Int32) (v2 : Int32) (v3 : Int32) (c : mm_C) : mR Int32 :=
  Option.bind (pI c v0 12 2 (0 : Int32)) fun c1 => cV 12 v0 c1 (fX12_isMinute N v0 v1 c1) fun r2 c3 => if r2 = 0 then (bX12_clouds_32 N  v0 c3) else (Option.bind (gR c3 v0 12 3) fun x4 => Option.bind (aI c3 x4 (1 : Int32)) fun x5 => cS (fX12_isIn N v2.toInt64 v1.toInt64 ((x5 - (1 : Int32)).toInt64) c3) fun r6 c7 => if ¬ r6 = 0 then (cV 12 v0 c7 (fX12_keep N v0 c7) fun (_ : Unit) c8 => lX12_clouds_48 N  N v0 v2 v3 (0 : Int32) v1 c8) else (bX12_clouds_32 N  v0 c7))
set_option maxRecDepth 100000 in
theorem wX12_clouds_0 {Z : mm_Z} {X : mm_T} {k w mc ms d n N : Nat} {Q : mm_O → mm_H → Prop} (C : mm_Ok Z qX12_clouds X) (hRm : mt_R X = mm_rm d mc ms) (hd : 3 ≤ d) (hn : n + 1 < 1000000) (hk : k + 1 ≤ mc) (hw : w + 6 ≤ ms) {v0 : Nat} {v1 : Int32} {v2 : Int32} {v3 : Int32} {c : mm_C} (hf : hO 0 ovI n (bX12_clouds_0 N  v0 v1 v2 v3 c) Q) : mG Z qX12_clouds X k w mc ms Q (0, [(0, .ref v0), (1, .int v1), (2, .int v2), (3, .int v3)], [], (n, c)) := by
  unfold bX12_clouds_0 at hf
  refine mg_aload_n C rfl rfl ?_
  refine mg_iconst (v := 0) C rfl (by decide) ?_
  refine mh_pI C rfl rfl rfl (by decide) rfl rfl rfl hf (fun c1 hf => ?_)
  refine mg_aload_n C rfl rfl ?_
  refine mg_iload_n C rfl rfl ?_
  refine mh_cVI (M' := qX12_isMinute) C rfl rfl aX12_isMinute iX12_isMinute sX12_isMinute hRm (by omega) (by decide) (by omega) (by omega) rfl rfl rfl (Nat.le_of_ble_eq_true rfl) rfl hf (fun hs => wX12_isMinute (by omega) (by omega) hs) (fun r2 c3 hf => ?_)
  refine mh_if_eq C rfl hf (fun e_10 hf => ?_) (fun e_10 hf => ?_)
  · refine mg_sub (lv' := [(0, .ref v0)]) (by simp) ?_
    exact wX12_clouds_32 C hRm hd hn hk hw hf
  · refine mg_iload_n C rfl rfl ?_
    refine mg_i2l C rfl ?_
    refine mg_iload_n C rfl rfl ?_
    refine mg_i2l C rfl ?_
    refine mg_aload_n C rfl rfl ?_
    refine mh_gR C rfl rfl rfl (by decide) hf (fun x4 hf => ?_)
    refine mg_iconst (v := 1) C rfl (by decide) ?_
    refine mh_aI C rfl hf (fun x5 hf => ?_)
    refine mg_iconst (v := 1) C rfl (by decide) ?_
    refine mg_isub C rfl ?_
    refine mg_i2l C rfl ?_
    refine mh_cSI (M' := qX12_isIn) C rfl rfl aX12_isIn tX12_isIn hRm (by omega) (by decide) (by omega) (by omega) rfl rfl (Nat.le_of_ble_eq_true rfl) rfl hf (fun hs => wX12_isIn (by omega) (by omega) hs) (fun r6 c7 hf => ?_)
    refine mh_if_ne C rfl hf (fun e_29 hf => ?_) (fun e_29 hf => ?_)
    · refine mg_aload_n C rfl rfl ?_
      refine mh_cVU (M' := qX12_keep) C rfl rfl aX12_keep iX12_keep sX12_keep hRm (by omega) (by decide) (by omega) (by omega) rfl rfl rfl (Nat.le_of_ble_eq_true rfl) rfl hf (fun hs => wX12_keep (by omega) (by omega) hs) (fun c8 hf => ?_)
      refine mg_iconst (v := 0) C rfl (by decide) ?_
      refine mg_istore (lv' := [(0, .ref v0), (1, .int v1), (2, .int v2), (3, .int v3), (4, .int (0 : Int32))]) C rfl (Nat.le_of_ble_eq_true rfl) rfl ?_
      refine mg_iload_n C rfl rfl ?_
      refine mg_istore (lv' := [(0, .ref v0), (1, .int v1), (2, .int v2), (3, .int v3), (4, .int (0 : Int32)), (5, .int v1)]) C rfl (Nat.le_of_ble_eq_true rfl) rfl ?_
      refine mg_sub (lv' := [(0, .ref v0), (2, .int v2), (3, .int v3), (4, .int (0 : Int32)), (5, .int v1)]) (by simp) ?_
      exact WX12_clouds_48 C hRm hd hn hk hw N hf
    · refine mg_sub (lv' := [(0, .ref v0)]) (by simp) ?_
      exact wX12_clouds_32 C hRm hd hn hk hw hf
def fX12_clouds (N : Nat) (v0 : Nat) (v1 : Int32) (v2 : Int32) (v3 : Int32) (c : mm_C) : mR Int32 := bX12_clouds_0 N v0 v1 v2 v3 c
set_option maxRecDepth 100000 in
theorem wX12_clouds {Z : mm_Z} {d n N : Nat} (hd : 3 ≤ d) (hn : n + 1 < 1000000) {v0 : Nat} {v1 : Int32} {v2 : Int32} {v3 : Int32} {c : mm_C} (hs : (fX12_clouds N v0 v1 v2 v3 c).isSome = true) : mC Z qX12_clouds d 1 6 [.ref v0, .int v1, .int v2, .int v3] (n, c) (mP 0 ovI n (fX12_clouds N v0 v1 v2 v3 c)) := by
  refine mC_of gX12_clouds (by decide +kernel) (Nat.le_of_ble_eq_true rfl) fun X C hRm => ?_
  have hf := hO_mP 0 ovI n hs
  have hk : 0 + 1 ≤ 1 := Nat.le_of_ble_eq_true rfl
  have hw : 0 + 6 ≤ 6 := Nat.le_of_ble_eq_true rfl
  show mG _ _ _ _ _ _ _ _ (0, [(0, .ref v0), (1, .int v1), (2, .int v2), (3, .int v3)], [], (n, c))
  exact wX12_clouds_0 C hRm hd hn hk hw hf
def bX12_undo_0 (N : Nat)  (v0 : Nat) (c : mm_C) : mR Int32 :=
  Option.bind (pI c v0 12 2 (0 : Int32)) fun c1 => Option.bind (gI c1 v0 12 28) fun x2 => if ¬ x2 = 0 then (Option.bind (gI c1 v0 12 28) fun x3 => Option.bind (pI c1 v0 12 28 (x3 - (1 : Int32))) fun c4 => Option.bind (gR c4 v0 12 27) fun x5 => Option.bind (gI c4 v0 12 28) fun x6 => cV 12 v0 c4 (fX12_unpack N v0 x5 ((31 : Int32) * x6) c4) fun (_ : Unit) c7 => Option.bind (gI c7 v0 12 28) fun x8 => some (.inl x8, c7)) else (some (.inl (-1 : Int32), c1))
set_option maxRecDepth 100000 in
theorem wX12_undo_0 {Z : mm_Z} {X : mm_T} {k w mc ms d n N : Nat} {Q : mm_O → mm_H → Prop} (C : mm_Ok Z qX12_undo X) (hRm : mt_R X = mm_rm d mc ms) (hd : 2 ≤ d) (hn : n + 1 < 1000000) (hk : k + 1 ≤ mc) (hw : w + 6 ≤ ms) {v0 : Nat} {c : mm_C} (hf : hO 0 ovI n (bX12_undo_0 N  v0 c) Q) : mG Z qX12_undo X k w mc ms Q (0, [(0, .ref v0)], [], (n, c)) := by
  unfold bX12_undo_0 at hf
  refine mg_aload_n C rfl rfl ?_
  refine mg_iconst (v := 0) C rfl (by decide) ?_
  refine mh_pI C rfl rfl rfl (by decide) rfl rfl rfl hf (fun c1 hf => ?_)
  refine mg_aload_n C rfl rfl ?_
  refine mh_gI C rfl rfl rfl (by decide) hf (fun x2 hf => ?_)
  refine mh_if_ne C rfl hf (fun e_9 hf => ?_) (fun e_9 hf => ?_)
  · refine mg_aload_n C rfl rfl ?_
    refine mg_dup C rfl rfl ?_
    refine mh_gI C rfl rfl rfl (by decide) hf (fun x3 hf => ?_)
    refine mg_iconst (v := 1) C rfl (by decide) ?_
    refine mg_isub C rfl ?_
    refine mh_pI C rfl rfl rfl (by decide) rfl rfl rfl hf (fun c4 hf => ?_)
    refine mg_aload_n C rfl rfl ?_
    refine mg_aload_n C rfl rfl ?_
    refine mh_gR C rfl rfl rfl (by decide) hf (fun x5 hf => ?_)
    refine mg_bipush (v := 31) C rfl (by decide) ?_
    refine mg_aload_n C rfl rfl ?_
    refine mh_gI C rfl rfl rfl (by decide) hf (fun x6 hf => ?_)
    refine mg_imul C rfl ?_
    refine mh_cVU (M' := qX12_unpack) C rfl rfl aX12_unpack iX12_unpack sX12_unpack hRm (by omega) (by decide) (by omega) (by omega) rfl rfl rfl (Nat.le_of_ble_eq_true rfl) rfl hf (fun hs => wX12_unpack (by omega) (by omega) hs) (fun c7 hf => ?_)
    refine mg_aload_n C rfl rfl ?_
    refine mh_gI C rfl rfl rfl (by decide) hf (fun x8 hf => ?_)
    exact mh_ireturn C rfl (by omega) (by omega) rfl hf
  · refine mg_iconst (v := (-1)) C rfl (by decide) ?_
    exact mh_ireturn C rfl (by omega) (by omega) rfl hf
def fX12_undo (N : Nat) (v0 : Nat) (c : mm_C) : mR Int32 := bX12_undo_0 N v0 c
set_option maxRecDepth 100000 in
theorem wX12_undo {Z : mm_Z} {d n N : Nat} (hd : 2 ≤ d) (hn : n + 1 < 1000000) {v0 : Nat} {c : mm_C} (hs : (fX12_undo N v0 c).isSome = true) : mC Z qX12_undo d 1 6 [.ref v0] (n, c) (mP 0 ovI n (fX12_undo N v0 c)) := by
  refine mC_of gX12_undo (by decide +kernel) (Nat.le_of_ble_eq_true rfl) fun X C hRm => ?_
  have hf := hO_mP 0 ovI n hs
  have hk : 0 + 1 ≤ 1 := Nat.le_of_ble_eq_true rfl
  have hw : 0 + 6 ≤ 6 := Nat.le_of_ble_eq_true rfl
  show mG _ _ _ _ _ _ _ _ (0, [(0, .ref v0)], [], (n, c))
  exact wX12_undo_0 C hRm hd hn hk hw hf
def bX12_reckon_112 (N : Nat)   (c : mm_C) : mR Int32 :=
  some (.inl (1 : Int32), c)
set_option maxRecDepth 100000 in
theorem wX12_reckon_112 {Z : mm_Z} {X : mm_T} {k w mc ms d n N : Nat} {Q : mm_O → mm_H → Prop} (C : mm_Ok Z qX12_reckon X) (hRm : mt_R X = mm_rm d mc ms) (hd : 1 ≤ d) (hn : n + 1 < 1000000) (hk : k + 1 ≤ mc) (hw : w + 6 ≤ ms)  {c : mm_C} (hf : hO 0 ovI n (bX12_reckon_112 N   c) Q) : mG Z qX12_reckon X k w mc ms Q (112, [], [], (n, c)) := by
  unfold bX12_reckon_112 at hf
  refine mg_iconst (v := 1) C rfl (by decide) ?_
  refine mg_goto C rfl ?_
  exact mh_ireturn C rfl (by omega) (by omega) rfl hf
def bX12_reckon_0 (N : Nat)  (v0 : Int32) (v1 : Int32) (v2 : Int32) (c : mm_C) : mR Int32 :=
  if v0 = (-26 : Int32) then (if v1 = 0 then (some (.inl (0 : Int32), c)) else (if v2 = 0 then (some (.inl (0 : Int32), c)) else (some (.inl (1 : Int32), c)))) else (if v0 = (-25 : Int32) then (if ¬ v1 = v2 then (some (.inl (0 : Int32), c)) else (some (.inl (1 : Int32), c))) else (if v0 = (-24 : Int32) then (if v2 ≤ v1 then (some (.inl (0 : Int32), c)) else (some (.inl (1 : Int32), c))) else (if v0 = (-23 : Int32) then (if ¬ v2 = 0 then (Option.bind (dvI v1 v2) fun x1 => some (.inl x1, c)) else (some (.inl (0 : Int32), c))) else (if v0 = (-22 : Int32) then (some (.inl (v1 * v2), c)) else (if v0 = (-21 : Int32) then (some (.inl (v1 - v2), c)) else (if v0 = (-20 : Int32) then (some (.inl (v1 + v2), c)) else (if ¬ v1 = 0 then (bX12_reckon_112 N  c) else (if v2 = 0 then (some (.inl (0 : Int32), c)) else (bX12_reckon_112 N  c)))))))))
set_option maxRecDepth 100000 in
theorem wX12_reckon_0 {Z : mm_Z} {X : mm_T} {k w mc ms d n N : Nat} {Q : mm_O → mm_H → Prop} (C : mm_Ok Z qX12_reckon X) (hRm : mt_R X = mm_rm d mc ms) (hd : 1 ≤ d) (hn : n + 1 < 1000000) (hk : k + 1 ≤ mc) (hw : w + 6 ≤ ms) {v0 : Int32} {v1 : Int32} {v2 : Int32} {c : mm_C} (hf : hO 0 ovI n (bX12_reckon_0 N  v0 v1 v2 c) Q) : mG Z qX12_reckon X k w mc ms Q (0, [(0, .int v0), (1, .int v1), (2, .int v2)], [], (n, c)) := by
  unfold bX12_reckon_0 at hf
  refine mg_iload_n C rfl rfl ?_
  refine mh_case hf (fun e_1 hf => ?_) (fun n_974 hf => ?_)
  · refine mg_tabIn e_1 (tgt := 90) C rfl (by decide) (by decide) rfl (by decide) ?_
    refine mg_iload_n C rfl rfl ?_
    refine mh_if_eq C rfl hf (fun e_91 hf => ?_) (fun e_91 hf => ?_)
    · refine mg_iconst (v := 0) C rfl (by decide) ?_
      exact mh_ireturn C rfl (by omega) (by omega) rfl hf
    · refine mg_iload_n C rfl rfl ?_
      refine mh_if_eq C rfl hf (fun e_95 hf => ?_) (fun e_95 hf => ?_)
      · refine mg_iconst (v := 0) C rfl (by decide) ?_
        exact mh_ireturn C rfl (by omega) (by omega) rfl hf
      · refine mg_iconst (v := 1) C rfl (by decide) ?_
        refine mg_goto C rfl ?_
        exact mh_ireturn C rfl (by omega) (by omega) rfl hf
  refine mh_case hf (fun e_1 hf => ?_) (fun n_975 hf => ?_)
  · refine mg_tabIn e_1 (tgt := 79) C rfl (by decide) (by decide) rfl (by decide) ?_
    refine mg_iload_n C rfl rfl ?_
    refine mg_iload_n C rfl rfl ?_
    refine mh_icmp_ne C rfl hf (fun e_81 hf => ?_) (fun e_81 hf => ?_)
    · refine mg_iconst (v := 0) C rfl (by decide) ?_
      exact mh_ireturn C rfl (by omega) (by omega) rfl hf
    · refine mg_iconst (v := 1) C rfl (by decide) ?_
      refine mg_goto C rfl ?_
      exact mh_ireturn C rfl (by omega) (by omega) rfl hf
  refine mh_case hf (fun e_1 hf => ?_) (fun n_976 hf => ?_)
  · refine mg_tabIn e_1 (tgt := 68) C rfl (by decide) (by decide) rfl (by decide) ?_
    refine mg_iload_n C rfl rfl ?_
    refine mg_iload_n C rfl rfl ?_
    refine mh_icmp_ge C rfl hf (fun e_70 hf => ?_) (fun e_70 hf => ?_)
    · refine mg_iconst (v := 0) C rfl (by decide) ?_
      exact mh_ireturn C rfl (by omega) (by omega) rfl hf
    · refine mg_iconst (v := 1) C rfl (by decide) ?_
      refine mg_goto C rfl ?_
      exact mh_ireturn C rfl (by omega) (by omega) rfl hf
  refine mh_case hf (fun e_1 hf => ?_) (fun n_977 hf => ?_)
  · refine mg_tabIn e_1 (tgt := 56) C rfl (by decide) (by decide) rfl (by decide) ?_
    refine mg_iload_n C rfl rfl ?_
    refine mh_if_ne C rfl hf (fun e_57 hf => ?_) (fun e_57 hf => ?_)
    · refine mg_iload_n C rfl rfl ?_
      refine mg_iload_n C rfl rfl ?_
      refine mh_idiv C rfl hf (fun x1 hf => ?_)
      exact mh_ireturn C rfl (by omega) (by omega) rfl hf
    · refine mg_iconst (v := 0) C rfl (by decide) ?_
      refine mg_goto C rfl ?_
      exact mh_ireturn C rfl (by omega) (by omega) rfl hf
  refine mh_case hf (fun e_1 hf => ?_) (fun n_978 hf => ?_)
  · refine mg_tabIn e_1 (tgt := 52) C rfl (by decide) (by decide) rfl (by decide) ?_
    refine mg_iload_n C rfl rfl ?_
    refine mg_iload_n C rfl rfl ?_
    refine mg_imul C rfl ?_
    exact mh_ireturn C rfl (by omega) (by omega) rfl hf
  refine mh_case hf (fun e_1 hf => ?_) (fun n_979 hf => ?_)
  · refine mg_tabIn e_1 (tgt := 48) C rfl (by decide) (by decide) rfl (by decide) ?_
    refine mg_iload_n C rfl rfl ?_
    refine mg_iload_n C rfl rfl ?_
    refine mg_isub C rfl ?_
    exact mh_ireturn C rfl (by omega) (by omega) rfl hf
  refine mh_case hf (fun e_1 hf => ?_) (fun n_980 hf => ?_)
  · refine mg_tabIn e_1 (tgt := 44) C rfl (by decide) (by decide) rfl (by decide) ?_
    refine mg_iload_n C rfl rfl ?_
    refine mg_iload_n C rfl rfl ?_
    refine mg_iadd C rfl ?_
    exact mh_ireturn C rfl (by omega) (by omega) rfl hf
  refine mg_tableOut (tgt := 104) C rfl (tsw_out [-26, -25, -24, -23, -22, -21, -20] (by decide) (List.forall_mem_cons.mpr ⟨n_974, List.forall_mem_cons.mpr ⟨n_975, List.forall_mem_cons.mpr ⟨n_976, List.forall_mem_cons.mpr ⟨n_977, List.forall_mem_cons.mpr ⟨n_978, List.forall_mem_cons.mpr ⟨n_979, List.forall_mem_cons.mpr ⟨n_980, List.forall_mem_nil _⟩⟩⟩⟩⟩⟩⟩)) (by decide) ?_
  refine mg_iload_n C rfl rfl ?_
  refine mh_if_ne C rfl hf (fun e_105 hf => ?_) (fun e_105 hf => ?_)
  · refine mg_sub (lv' := []) (by simp) ?_
    exact wX12_reckon_112 C hRm hd hn hk hw hf
  · refine mg_iload_n C rfl rfl ?_
    refine mh_if_eq C rfl hf (fun e_109 hf => ?_) (fun e_109 hf => ?_)
    · refine mg_iconst (v := 0) C rfl (by decide) ?_
      exact mh_ireturn C rfl (by omega) (by omega) rfl hf
    · refine mg_sub (lv' := []) (by simp) ?_
      exact wX12_reckon_112 C hRm hd hn hk hw hf
def fX12_reckon (N : Nat) (v0 : Int32) (v1 : Int32) (v2 : Int32) (c : mm_C) : mR Int32 := bX12_reckon_0 N v0 v1 v2 c
set_option maxRecDepth 100000 in
theorem wX12_reckon {Z : mm_Z} {d n N : Nat} (hd : 1 ≤ d) (hn : n + 1 < 1000000) {v0 : Int32} {v1 : Int32} {v2 : Int32} {c : mm_C} (hs : (fX12_reckon N v0 v1 v2 c).isSome = true) : mC Z qX12_reckon d 1 6 [.int v0, .int v1, .int v2] (n, c) (mP 0 ovI n (fX12_reckon N v0 v1 v2 c)) := by
  refine mC_of gX12_reckon (by decide +kernel) (Nat.le_of_ble_eq_true rfl) fun X C hRm => ?_
  have hf := hO_mP 0 ovI n hs
  have hk : 0 + 1 ≤ 1 := Nat.le_of_ble_eq_true rfl
  have hw : 0 + 6 ≤ 6 := Nat.le_of_ble_eq_true rfl
  show mG _ _ _ _ _ _ _ _ (0, [(0, .int v0), (1, .int v1), (2, .int v2)], [], (n, c))
  exact wX12_reckon_0 C hRm hd hn hk hw hf
def bX12_valueBy_135 (N : Nat)  (v0 : Nat) (c : mm_C) : mR Int32 :=
  Option.bind (gR c v0 12 32) fun x1 => Option.bind (aI c x1 (0 : Int32)) fun x2 => some (.inl x2, c)
set_option maxRecDepth 100000 in
theorem wX12_valueBy_135 {Z : mm_Z} {X : mm_T} {k w mc ms d n N : Nat} {Q : mm_O → mm_H → Prop} (C : mm_Ok Z qX12_valueBy X) (hRm : mt_R X = mm_rm d mc ms) (hd : 2 ≤ d) (hn : n + 1 < 1000000) (hk : k + 1 ≤ mc) (hw : w + 6 ≤ ms) {v0 : Nat} {c : mm_C} (hf : hO 0 ovI n (bX12_valueBy_135 N  v0 c) Q) : mG Z qX12_valueBy X k w mc ms Q (135, [(0, .ref v0)], [], (n, c)) := by
  unfold bX12_valueBy_135 at hf
  refine mg_aload_n C rfl rfl ?_
  refine mh_gR C rfl rfl rfl (by decide) hf (fun x1 hf => ?_)
  refine mg_iconst (v := 0) C rfl (by decide) ?_
  refine mh_aI C rfl hf (fun x2 hf => ?_)
  exact mh_ireturn C rfl (by omega) (by omega) rfl hf
def bX12_valueBy_129 (N : Nat)  (k9 : Nat → Int32 → Int32 → Int32 → mm_C → mR Int32) (v0 : Nat) (v1 : Int32) (v2 : Int32) (v3 : Int32) (c : mm_C) : mR Int32 :=
  k9 v0 v1 v2 (v3 + 1) c
set_option maxRecDepth 100000 in
theorem wX12_valueBy_129 {Z : mm_Z} {X : mm_T} {k w mc ms d n N : Nat} {Q : mm_O → mm_H → Prop} (C : mm_Ok Z qX12_valueBy X) (hRm : mt_R X = mm_rm d mc ms) (hd : 2 ≤ d) (hn : n + 1 < 1000000) (hk : k + 1 ≤ mc) (hw : w + 6 ≤ ms) {k9 : Nat → Int32 → Int32 → Int32 → mm_C → mR Int32} (hk9 : ∀ (v0 : Nat) (v1 : Int32) (v2 : Int32) (v3 : Int32) (c : mm_C), hO 0 ovI n (k9 v0 v1 v2 v3 c) Q → mG Z qX12_valueBy X k w mc ms Q (9, [(0, .ref v0), (1, .int v1), (2, .int v2), (3, .int v3)], [], (n, c))) {v0 : Nat} {v1 : Int32} {v2 : Int32} {v3 : Int32} {c : mm_C} (hf : hO 0 ovI n (bX12_valueBy_129 N  k9 v0 v1 v2 v3 c) Q) : mG Z qX12_valueBy X k w mc ms Q (129, [(0, .ref v0), (1, .int v1), (2, .int v2), (3, .int v3)], [], (n, c)) := by
  unfold bX12_valueBy_129 at hf
  refine mg_iinc (lv' := [(0, .ref v0), (1, .int v1), (2, .int v2), (3, .int (v3 + 1))]) C rfl (Nat.le_of_ble_eq_true rfl) rfl (show _ + Int32.ofInt 1 = _ + 1 by congr 1) rfl ?_
  refine mg_goto C rfl ?_
  exact hk9 _ _ _ _ _ hf
def bX12_valueBy_95 (N : Nat)  (k9 : Nat → Int32 → Int32 → Int32 → mm_C → mR Int32) (v0 : Nat) (v1 : Int32) (v2 : Int32) (v3 : Int32) (s0 : Nat) (s1 : Int32) (s2 : Int32) (c : mm_C) : mR Int32 :=
  Option.bind (tI c s0 s1 s2) fun c1 => bX12_valueBy_129 N  k9 v0 v1 v2 v3 c1
set_option maxRecDepth 100000 in
theorem wX12_valueBy_95 {Z : mm_Z} {X : mm_T} {k w mc ms d n N : Nat} {Q : mm_O → mm_H → Prop} (C : mm_Ok Z qX12_valueBy X) (hRm : mt_R X = mm_rm d mc ms) (hd : 2 ≤ d) (hn : n + 1 < 1000000) (hk : k + 1 ≤ mc) (hw : w + 6 ≤ ms) {k9 : Nat → Int32 → Int32 → Int32 → mm_C → mR Int32} (hk9 : ∀ (v0 : Nat) (v1 : Int32) (v2 : Int32) (v3 : Int32) (c : mm_C), hO 0 ovI n (k9 v0 v1 v2 v3 c) Q → mG Z qX12_valueBy X k w mc ms Q (9, [(0, .ref v0), (1, .int v1), (2, .int v2), (3, .int v3)], [], (n, c))) {v0 : Nat} {v1 : Int32} {v2 : Int32} {v3 : Int32} {s0 : Nat} {s1 : Int32} {s2 : Int32} {c : mm_C} (hf : hO 0 ovI n (bX12_valueBy_95 N  k9 v0 v1 v2 v3 s0 s1 s2 c) Q) : mG Z qX12_valueBy X k w mc ms Q (95, [(0, .ref v0), (1, .int v1), (2, .int v2), (3, .int v3)], [.int s2, .int s1, .ref s0], (n, c)) := by
  unfold bX12_valueBy_95 at hf
  refine mh_tI C rfl hf (fun c1 hf => ?_)
  refine mg_goto C rfl ?_
  exact wX12_valueBy_129 C hRm hd hn hk hw hk9 hf
def bX12_valueBy_58 (N : Nat)  (k9 : Nat → Int32 → Int32 → Int32 → mm_C → mR Int32) (v0 : Nat) (v1 : Int32) (v2 : Int32) (v3 : Int32) (s0 : Nat) (s1 : Int32) (s2 : Int32) (c : mm_C) : mR Int32 :=
  Option.bind (tI c s0 s1 s2) fun c1 => bX12_valueBy_129 N  k9 v0 v1 (v2 + 1) v3 c1
set_option maxRecDepth 100000 in
theorem wX12_valueBy_58 {Z : mm_Z} {X : mm_T} {k w mc ms d n N : Nat} {Q : mm_O → mm_H → Prop} (C : mm_Ok Z qX12_valueBy X) (hRm : mt_R X = mm_rm d mc ms) (hd : 2 ≤ d) (hn : n + 1 < 1000000) (hk : k + 1 ≤ mc) (hw : w + 6 ≤ ms) {k9 : Nat → Int32 → Int32 → Int32 → mm_C → mR Int32} (hk9 : ∀ (v0 : Nat) (v1 : Int32) (v2 : Int32) (v3 : Int32) (c : mm_C), hO 0 ovI n (k9 v0 v1 v2 v3 c) Q → mG Z qX12_valueBy X k w mc ms Q (9, [(0, .ref v0), (1, .int v1), (2, .int v2), (3, .int v3)], [], (n, c))) {v0 : Nat} {v1 : Int32} {v2 : Int32} {v3 : Int32} {s0 : Nat} {s1 : Int32} {s2 : Int32} {c : mm_C} (hf : hO 0 ovI n (bX12_valueBy_58 N  k9 v0 v1 v2 v3 s0 s1 s2 c) Q) : mG Z qX12_valueBy X k w mc ms Q (58, [(0, .ref v0), (1, .int v1), (2, .int v2), (3, .int v3)], [.int s2, .int s1, .ref s0], (n, c)) := by
  unfold bX12_valueBy_58 at hf
  refine mh_tI C rfl hf (fun c1 hf => ?_)
  refine mg_iinc (lv' := [(0, .ref v0), (1, .int v1), (2, .int (v2 + 1)), (3, .int v3)]) C rfl (Nat.le_of_ble_eq_true rfl) rfl (show _ + Int32.ofInt 1 = _ + 1 by congr 1) rfl ?_
  refine mg_goto C rfl ?_
  exact wX12_valueBy_129 C hRm hd hn hk hw hk9 hf
def bX12_valueBy_9 (N : Nat)  (k9 : Nat → Int32 → Int32 → Int32 → mm_C → mR Int32) (v0 : Nat) (v1 : Int32) (v2 : Int32) (v3 : Int32) (c : mm_C) : mR Int32 :=
  Option.bind (gR c v0 12 12) fun x1 => Option.bind (aI c x1 v1) fun x2 => if x2 ≤ v3 then (bX12_valueBy_135 N  v0 c) else (Option.bind (gR c v0 12 13) fun x3 => Option.bind (aI c x3 v3) fun x4 => if x4 ≤ (-20 : Int32) then (if ¬ x4 = (-28 : Int32) then (Option.bind (gR c v0 12 32) fun x5 => Option.bind (gR c v0 12 32) fun x6 => Option.bind (aI c x6 ((v2 + (-1)) - (1 : Int32))) fun x7 => Option.bind (gR c v0 12 32) fun x8 => Option.bind (aI c x8 (v2 + (-1))) fun x9 => cS (fX12_reckon N x4 x7 x9 c) fun r10 c11 => Option.bind (tI c11 x5 ((v2 + (-1)) - (1 : Int32)) r10) fun c12 => bX12_valueBy_129 N  k9 v0 v1 (v2 + (-1)) v3 c12) else (Option.bind (gR c v0 12 32) fun x13 => Option.bind (gR c v0 12 32) fun x14 => Option.bind (aI c x14 (v2 - (1 : Int32))) fun x15 => if x15 = 0 then (bX12_valueBy_95 N  k9 v0 v1 v2 v3 x13 (v2 - (1 : Int32)) (1 : Int32) c) else (bX12_valueBy_95 N  k9 v0 v1 v2 v3 x13 (v2 - (1 : Int32)) (0 : Int32) c))) else (Option.bind (gR c v0 12 32) fun x16 => if x4 < 0 then (Option.bind (gR c v0 12 31) fun x17 => Option.bind (aI c x17 ((-1 : Int32) - x4)) fun x18 => bX12_valueBy_58 N  k9 v0 v1 v2 v3 x16 v2 x18 c) else (bX12_valueBy_58 N  k9 v0 v1 v2 v3 x16 v2 x4 c)))
set_option maxRecDepth 100000 in
theorem wX12_valueBy_9 {Z : mm_Z} {X : mm_T} {k w mc ms d n N : Nat} {Q : mm_O → mm_H → Prop} (C : mm_Ok Z qX12_valueBy X) (hRm : mt_R X = mm_rm d mc ms) (hd : 2 ≤ d) (hn : n + 1 < 1000000) (hk : k + 1 ≤ mc) (hw : w + 6 ≤ ms) {k9 : Nat → Int32 → Int32 → Int32 → mm_C → mR Int32} (hk9 : ∀ (v0 : Nat) (v1 : Int32) (v2 : Int32) (v3 : Int32) (c : mm_C), hO 0 ovI n (k9 v0 v1 v2 v3 c) Q → mG Z qX12_valueBy X k w mc ms Q (9, [(0, .ref v0), (1, .int v1), (2, .int v2), (3, .int v3)], [], (n, c))) {v0 : Nat} {v1 : Int32} {v2 : Int32} {v3 : Int32} {c : mm_C} (hf : hO 0 ovI n (bX12_valueBy_9 N  k9 v0 v1 v2 v3 c) Q) : mG Z qX12_valueBy X k w mc ms Q (9, [(0, .ref v0), (1, .int v1), (2, .int v2), (3, .int v3)], [], (n, c)) := by
  unfold bX12_valueBy_9 at hf
  refine mg_iload_n C rfl rfl ?_
  refine mg_aload_n C rfl rfl ?_
  refine mh_gR C rfl rfl rfl (by decide) hf (fun x1 hf => ?_)
  refine mg_iload_n C rfl rfl ?_
  refine mh_aI C rfl hf (fun x2 hf => ?_)
  refine mh_icmp_ge C rfl hf (fun e_16 hf => ?_) (fun e_16 hf => ?_)
  · refine mg_sub (lv' := [(0, .ref v0)]) (by simp) ?_
    exact wX12_valueBy_135 C hRm hd hn hk hw hf
  · refine mg_aload_n C rfl rfl ?_
    refine mh_gR C rfl rfl rfl (by decide) hf (fun x3 hf => ?_)
    refine mg_iload_n C rfl rfl ?_
    refine mh_aI C rfl hf (fun x4 hf => ?_)
    refine mg_istore (lv' := [(0, .ref v0), (1, .int v1), (2, .int v2), (3, .int v3), (4, .int x4)]) C rfl (Nat.le_of_ble_eq_true rfl) rfl ?_
    refine mg_iload C rfl rfl ?_
    refine mg_bipush (v := (-20)) C rfl (by decide) ?_
    refine mh_icmp_le C rfl hf (fun e_31 hf => ?_) (fun e_31 hf => ?_)
    · refine mg_iload C rfl rfl ?_
      refine mg_bipush (v := (-28)) C rfl (by decide) ?_
      refine mh_icmp_ne C rfl hf (fun e_69 hf => ?_) (fun e_69 hf => ?_)
      · refine mg_iinc (lv' := [(0, .ref v0), (1, .int v1), (2, .int (v2 + (-1))), (3, .int v3), (4, .int x4)]) C rfl (Nat.le_of_ble_eq_true rfl) rfl (show _ + Int32.ofInt (-1) = _ + (-1) by congr 1) rfl ?_
        refine mg_aload_n C rfl rfl ?_
        refine mh_gR C rfl rfl rfl (by decide) hf (fun x5 hf => ?_)
        refine mg_iload_n C rfl rfl ?_
        refine mg_iconst (v := 1) C rfl (by decide) ?_
        refine mg_isub C rfl ?_
        refine mg_iload C rfl rfl ?_
        refine mg_aload_n C rfl rfl ?_
        refine mh_gR C rfl rfl rfl (by decide) hf (fun x6 hf => ?_)
        refine mg_iload_n C rfl rfl ?_
        refine mg_iconst (v := 1) C rfl (by decide) ?_
        refine mg_isub C rfl ?_
        refine mh_aI C rfl hf (fun x7 hf => ?_)
        refine mg_aload_n C rfl rfl ?_
        refine mh_gR C rfl rfl rfl (by decide) hf (fun x8 hf => ?_)
        refine mg_iload_n C rfl rfl ?_
        refine mh_aI C rfl hf (fun x9 hf => ?_)
        refine mh_cSI (M' := qX12_reckon) C rfl rfl aX12_reckon tX12_reckon hRm (by omega) (by decide) (by omega) (by omega) rfl rfl (Nat.le_of_ble_eq_true rfl) rfl hf (fun hs => wX12_reckon (by omega) (by omega) hs) (fun r10 c11 hf => ?_)
        refine mh_tI C rfl hf (fun c12 hf => ?_)
        refine mg_sub (lv' := [(0, .ref v0), (1, .int v1), (2, .int (v2 + (-1))), (3, .int v3)]) (by simp) ?_
        exact wX12_valueBy_129 C hRm hd hn hk hw hk9 hf
      · refine mg_aload_n C rfl rfl ?_
        refine mh_gR C rfl rfl rfl (by decide) hf (fun x13 hf => ?_)
        refine mg_iload_n C rfl rfl ?_
        refine mg_iconst (v := 1) C rfl (by decide) ?_
        refine mg_isub C rfl ?_
        refine mg_aload_n C rfl rfl ?_
        refine mh_gR C rfl rfl rfl (by decide) hf (fun x14 hf => ?_)
        refine mg_iload_n C rfl rfl ?_
        refine mg_iconst (v := 1) C rfl (by decide) ?_
        refine mg_isub C rfl ?_
        refine mh_aI C rfl hf (fun x15 hf => ?_)
        refine mh_if_eq C rfl hf (fun e_87 hf => ?_) (fun e_87 hf => ?_)
        · refine mg_iconst (v := 1) C rfl (by decide) ?_
          refine mg_sub (lv' := [(0, .ref v0), (1, .int v1), (2, .int v2), (3, .int v3)]) (by simp) ?_
          exact wX12_valueBy_95 C hRm hd hn hk hw hk9 hf
        · refine mg_iconst (v := 0) C rfl (by decide) ?_
          refine mg_goto C rfl ?_
          refine mg_sub (lv' := [(0, .ref v0), (1, .int v1), (2, .int v2), (3, .int v3)]) (by simp) ?_
          exact wX12_valueBy_95 C hRm hd hn hk hw hk9 hf
    · refine mg_aload_n C rfl rfl ?_
      refine mh_gR C rfl rfl rfl (by decide) hf (fun x16 hf => ?_)
      refine mg_iload_n C rfl rfl ?_
      refine mg_iload C rfl rfl ?_
      refine mh_if_lt C rfl hf (fun e_41 hf => ?_) (fun e_41 hf => ?_)
      · refine mg_aload_n C rfl rfl ?_
        refine mh_gR C rfl rfl rfl (by decide) hf (fun x17 hf => ?_)
        refine mg_iconst (v := (-1)) C rfl (by decide) ?_
        refine mg_iload C rfl rfl ?_
        refine mg_isub C rfl ?_
        refine mh_aI C rfl hf (fun x18 hf => ?_)
        refine mg_sub (lv' := [(0, .ref v0), (1, .int v1), (2, .int v2), (3, .int v3)]) (by simp) ?_
        exact wX12_valueBy_58 C hRm hd hn hk hw hk9 hf
      · refine mg_iload C rfl rfl ?_
        refine mg_goto C rfl ?_
        refine mg_sub (lv' := [(0, .ref v0), (1, .int v1), (2, .int v2), (3, .int v3)]) (by simp) ?_
        exact wX12_valueBy_58 C hRm hd hn hk hw hk9 hf
def lX12_valueBy_9 (N : Nat)  : Nat → Nat → Int32 → Int32 → Int32 → mm_C → mR Int32
  | 0, _, _, _, _, _ => none
  | m + 1, v0, v1, v2, v3, c => bX12_valueBy_9 N  (lX12_valueBy_9 N  m) v0 v1 v2 v3 c
theorem WX12_valueBy_9 {Z : mm_Z} {X : mm_T} {k w mc ms d n N : Nat} {Q : mm_O → mm_H → Prop} (C : mm_Ok Z qX12_valueBy X) (hRm : mt_R X = mm_rm d mc ms) (hd : 2 ≤ d) (hn : n + 1 < 1000000) (hk : k + 1 ≤ mc) (hw : w + 6 ≤ ms) : ∀ (m : Nat) {v0 : Nat} {v1 : Int32} {v2 : Int32} {v3 : Int32} {c : mm_C} (hf : hO 0 ovI n (lX12_valueBy_9 N  m v0 v1 v2 v3 c) Q), mG Z qX12_valueBy X k w mc ms Q (9, [(0, .ref v0), (1, .int v1), (2, .int v2), (3, .int v3)], [], (n, c)) := by
  intro m
  induction m with
  | zero => intro v0 v1 v2 v3 c hf; exact absurd hf hO_none
  | succ m ih => intro v0 v1 v2 v3 c hf; exact wX12_valueBy_9 C hRm hd hn hk hw (fun v0 v1 v2 v3 c hf => ih hf) hf
def bX12_valueBy_0 (N : Nat)  (v0 : Nat) (v1 : Int32) (c : mm_C) : mR Int32 :=
  Option.bind (gR c v0 12 11) fun x1 => Option.bind (aI c x1 v1) fun x2 => lX12_valueBy_9 N  N v0 v1 (0 : Int32) x2 c
set_option maxRecDepth 100000 in
theorem wX12_valueBy_0 {Z : mm_Z} {X : mm_T} {k w mc ms d n N : Nat} {Q : mm_O → mm_H → Prop} (C : mm_Ok Z qX12_valueBy X) (hRm : mt_R X = mm_rm d mc ms) (hd : 2 ≤ d) (hn : n + 1 < 1000000) (hk : k + 1 ≤ mc) (hw : w + 6 ≤ ms) {v0 : Nat} {v1 : Int32} {c : mm_C} (hf : hO 0 ovI n (bX12_valueBy_0 N  v0 v1 c) Q) : mG Z qX12_valueBy X k w mc ms Q (0, [(0, .ref v0), (1, .int v1)], [], (n, c)) := by
  unfold bX12_valueBy_0 at hf
  refine mg_iconst (v := 0) C rfl (by decide) ?_
  refine mg_istore_n (lv' := [(0, .ref v0), (1, .int v1), (2, .int (0 : Int32))]) C rfl (Nat.le_of_ble_eq_true rfl) rfl ?_
  refine mg_aload_n C rfl rfl ?_
  refine mh_gR C rfl rfl rfl (by decide) hf (fun x1 hf => ?_)
  refine mg_iload_n C rfl rfl ?_
  refine mh_aI C rfl hf (fun x2 hf => ?_)
  refine mg_istore_n (lv' := [(0, .ref v0), (1, .int v1), (2, .int (0 : Int32)), (3, .int x2)]) C rfl (Nat.le_of_ble_eq_true rfl) rfl ?_
  exact WX12_valueBy_9 C hRm hd hn hk hw N hf
def fX12_valueBy (N : Nat) (v0 : Nat) (v1 : Int32) (c : mm_C) : mR Int32 := bX12_valueBy_0 N v0 v1 c
set_option maxRecDepth 100000 in
theorem wX12_valueBy {Z : mm_Z} {d n N : Nat} (hd : 2 ≤ d) (hn : n + 1 < 1000000) {v0 : Nat} {v1 : Int32} {c : mm_C} (hs : (fX12_valueBy N v0 v1 c).isSome = true) : mC Z qX12_valueBy d 1 6 [.ref v0, .int v1] (n, c) (mP 0 ovI n (fX12_valueBy N v0 v1 c)) := by
  refine mC_of gX12_valueBy (by decide +kernel) (Nat.le_of_ble_eq_true rfl) fun X C hRm => ?_
  have hf := hO_mP 0 ovI n hs
  have hk : 0 + 1 ≤ 1 := Nat.le_of_ble_eq_true rfl
  have hw : 0 + 6 ≤ 6 := Nat.le_of_ble_eq_true rfl
  show mG _ _ _ _ _ _ _ _ (0, [(0, .ref v0), (1, .int v1)], [], (n, c))
  exact wX12_valueBy_0 C hRm hd hn hk hw hf
def bX12_worthBy_0 (N : Nat)  (v0 : Nat) (v1 : Int32) (v2 : Int32) (c : mm_C) : mR Int32 :=
  if ¬ v1 = (-1 : Int32) then (Option.bind (gR c v0 12 26) fun x1 => Option.bind (aI c x1 (0 : Int32)) fun x2 => Option.bind (gR c v0 12 31) fun x3 => Option.bind (gR c v0 12 6) fun x4 => Option.bind (aI c x4 v2) fun x5 => Option.bind (tI c x3 (0 : Int32) x5) fun c6 => Option.bind (gR c6 v0 12 31) fun x7 => Option.bind (gR c6 v0 12 4) fun x8 => Option.bind (aI c6 x8 v2) fun x9 => Option.bind (tI c6 x7 (1 : Int32) x9) fun c10 => Option.bind (gR c10 v0 12 31) fun x11 => Option.bind (gR c10 v0 12 5) fun x12 => Option.bind (aI c10 x12 v2) fun x13 => Option.bind (tI c10 x11 (2 : Int32) x13) fun c14 => Option.bind (gR c14 v0 12 31) fun x15 => cV 12 v0 c14 (fX12_staysFor N v0 x2 c14) fun r16 c17 => Option.bind (tI c17 x15 (3 : Int32) r16) fun c18 => Option.bind (gR c18 v0 12 31) fun x19 => Option.bind (gR c18 v0 12 8) fun x20 => Option.bind (aI c18 x20 v2) fun x21 => Option.bind (tI c18 x19 (4 : Int32) ((x21 - x2) + (1 : Int32))) fun c22 => Option.bind (gR c22 v0 12 31) fun x23 => Option.bind (dvI x2 (60 : Int32)) fun x24 => Option.bind (tI c22 x23 (5 : Int32) x24) fun c25 => Option.bind (gR c25 v0 12 31) fun x26 => Option.bind (gR c25 v0 12 26) fun x27 => Option.bind (aI c25 x27 (3 : Int32)) fun x28 => Option.bind (tI c25 x26 (6 : Int32) x28) fun c29 => Option.bind (gR c29 v0 12 31) fun x30 => Option.bind (gR c29 v0 12 26) fun x31 => Option.bind (aI c29 x31 ((7 : Int32) + v2)) fun x32 => Option.bind (tI c29 x30 (7 : Int32) x32) fun c33 => cV 12 v0 c33 (fX12_valueBy N v0 v1 c33) fun r34 c35 => some (.inl r34, c35)) else (some (.inl (1 : Int32), c))
set_option maxRecDepth 100000 in
theorem wX12_worthBy_0 {Z : mm_Z} {X : mm_T} {k w mc ms d n N : Nat} {Q : mm_O → mm_H → Prop} (C : mm_Ok Z qX12_worthBy X) (hRm : mt_R X = mm_rm d mc ms) (hd : 3 ≤ d) (hn : n + 1 < 1000000) (hk : k + 1 ≤ mc) (hw : w + 6 ≤ ms) {v0 : Nat} {v1 : Int32} {v2 : Int32} {c : mm_C} (hf : hO 0 ovI n (bX12_worthBy_0 N  v0 v1 v2 c) Q) : mG Z qX12_worthBy X k w mc ms Q (0, [(0, .ref v0), (1, .int v1), (2, .int v2)], [], (n, c)) := by
  unfold bX12_worthBy_0 at hf
  refine mg_iload_n C rfl rfl ?_
  refine mg_iconst (v := (-1)) C rfl (by decide) ?_
  refine mh_icmp_ne C rfl hf (fun e_2 hf => ?_) (fun e_2 hf => ?_)
  · refine mg_aload_n C rfl rfl ?_
    refine mh_gR C rfl rfl rfl (by decide) hf (fun x1 hf => ?_)
    refine mg_iconst (v := 0) C rfl (by decide) ?_
    refine mh_aI C rfl hf (fun x2 hf => ?_)
    refine mg_istore_n (lv' := [(0, .ref v0), (1, .int v1), (2, .int v2), (3, .int x2)]) C rfl (Nat.le_of_ble_eq_true rfl) rfl ?_
    refine mg_aload_n C rfl rfl ?_
    refine mh_gR C rfl rfl rfl (by decide) hf (fun x3 hf => ?_)
    refine mg_iconst (v := 0) C rfl (by decide) ?_
    refine mg_aload_n C rfl rfl ?_
    refine mh_gR C rfl rfl rfl (by decide) hf (fun x4 hf => ?_)
    refine mg_iload_n C rfl rfl ?_
    refine mh_aI C rfl hf (fun x5 hf => ?_)
    refine mh_tI C rfl hf (fun c6 hf => ?_)
    refine mg_aload_n C rfl rfl ?_
    refine mh_gR C rfl rfl rfl (by decide) hf (fun x7 hf => ?_)
    refine mg_iconst (v := 1) C rfl (by decide) ?_
    refine mg_aload_n C rfl rfl ?_
    refine mh_gR C rfl rfl rfl (by decide) hf (fun x8 hf => ?_)
    refine mg_iload_n C rfl rfl ?_
    refine mh_aI C rfl hf (fun x9 hf => ?_)
    refine mh_tI C rfl hf (fun c10 hf => ?_)
    refine mg_aload_n C rfl rfl ?_
    refine mh_gR C rfl rfl rfl (by decide) hf (fun x11 hf => ?_)
    refine mg_iconst (v := 2) C rfl (by decide) ?_
    refine mg_aload_n C rfl rfl ?_
    refine mh_gR C rfl rfl rfl (by decide) hf (fun x12 hf => ?_)
    refine mg_iload_n C rfl rfl ?_
    refine mh_aI C rfl hf (fun x13 hf => ?_)
    refine mh_tI C rfl hf (fun c14 hf => ?_)
    refine mg_aload_n C rfl rfl ?_
    refine mh_gR C rfl rfl rfl (by decide) hf (fun x15 hf => ?_)
    refine mg_iconst (v := 3) C rfl (by decide) ?_
    refine mg_aload_n C rfl rfl ?_
    refine mg_iload_n C rfl rfl ?_
    refine mh_cVI (M' := qX12_staysFor) C rfl rfl aX12_staysFor iX12_staysFor sX12_staysFor hRm (by omega) (by decide) (by omega) (by omega) rfl rfl rfl (Nat.le_of_ble_eq_true rfl) rfl hf (fun hs => wX12_staysFor (by omega) (by omega) hs) (fun r16 c17 hf => ?_)
    refine mh_tI C rfl hf (fun c18 hf => ?_)
    refine mg_aload_n C rfl rfl ?_
    refine mh_gR C rfl rfl rfl (by decide) hf (fun x19 hf => ?_)
    refine mg_iconst (v := 4) C rfl (by decide) ?_
    refine mg_aload_n C rfl rfl ?_
    refine mh_gR C rfl rfl rfl (by decide) hf (fun x20 hf => ?_)
    refine mg_iload_n C rfl rfl ?_
    refine mh_aI C rfl hf (fun x21 hf => ?_)
    refine mg_iload_n C rfl rfl ?_
    refine mg_isub C rfl ?_
    refine mg_iconst (v := 1) C rfl (by decide) ?_
    refine mg_iadd C rfl ?_
    refine mh_tI C rfl hf (fun c22 hf => ?_)
    refine mg_aload_n C rfl rfl ?_
    refine mh_gR C rfl rfl rfl (by decide) hf (fun x23 hf => ?_)
    refine mg_iconst (v := 5) C rfl (by decide) ?_
    refine mg_iload_n C rfl rfl ?_
    refine mg_bipush (v := 60) C rfl (by decide) ?_
    refine mh_idiv C rfl hf (fun x24 hf => ?_)
    refine mh_tI C rfl hf (fun c25 hf => ?_)
    refine mg_aload_n C rfl rfl ?_
    refine mh_gR C rfl rfl rfl (by decide) hf (fun x26 hf => ?_)
    refine mg_bipush (v := 6) C rfl (by decide) ?_
    refine mg_aload_n C rfl rfl ?_
    refine mh_gR C rfl rfl rfl (by decide) hf (fun x27 hf => ?_)
    refine mg_iconst (v := 3) C rfl (by decide) ?_
    refine mh_aI C rfl hf (fun x28 hf => ?_)
    refine mh_tI C rfl hf (fun c29 hf => ?_)
    refine mg_aload_n C rfl rfl ?_
    refine mh_gR C rfl rfl rfl (by decide) hf (fun x30 hf => ?_)
    refine mg_bipush (v := 7) C rfl (by decide) ?_
    refine mg_aload_n C rfl rfl ?_
    refine mh_gR C rfl rfl rfl (by decide) hf (fun x31 hf => ?_)
    refine mg_bipush (v := 7) C rfl (by decide) ?_
    refine mg_iload_n C rfl rfl ?_
    refine mg_iadd C rfl ?_
    refine mh_aI C rfl hf (fun x32 hf => ?_)
    refine mh_tI C rfl hf (fun c33 hf => ?_)
    refine mg_aload_n C rfl rfl ?_
    refine mg_iload_n C rfl rfl ?_
    refine mh_cVI (M' := qX12_valueBy) C rfl rfl aX12_valueBy iX12_valueBy sX12_valueBy hRm (by omega) (by decide) (by omega) (by omega) rfl rfl rfl (Nat.le_of_ble_eq_true rfl) rfl hf (fun hs => wX12_valueBy (by omega) (by omega) hs) (fun r34 c35 hf => ?_)
    exact mh_ireturn C rfl (by omega) (by omega) rfl hf
  · refine mg_iconst (v := 1) C rfl (by decide) ?_
    exact mh_ireturn C rfl (by omega) (by omega) rfl hf
def fX12_worthBy (N : Nat) (v0 : Nat) (v1 : Int32) (v2 : Int32) (c : mm_C) : mR Int32 := bX12_worthBy_0 N v0 v1 v2 c
set_option maxRecDepth 100000 in
theorem wX12_worthBy {Z : mm_Z} {d n N : Nat} (hd : 3 ≤ d) (hn : n + 1 < 1000000) {v0 : Nat} {v1 : Int32} {v2 : Int32} {c : mm_C} (hs : (fX12_worthBy N v0 v1 v2 c).isSome = true) : mC Z qX12_worthBy d 1 6 [.ref v0, .int v1, .int v2] (n, c) (mP 0 ovI n (fX12_worthBy N v0 v1 v2 c)) := by
  refine mC_of gX12_worthBy (by decide +kernel) (Nat.le_of_ble_eq_true rfl) fun X C hRm => ?_
  have hf := hO_mP 0 ovI n hs
  have hk : 0 + 1 ≤ 1 := Nat.le_of_ble_eq_true rfl
  have hw : 0 + 6 ≤ 6 := Nat.le_of_ble_eq_true rfl
  show mG _ _ _ _ _ _ _ _ (0, [(0, .ref v0), (1, .int v1), (2, .int v2)], [], (n, c))
  exact wX12_worthBy_0 C hRm hd hn hk hw hf
def bX12_pick_66 (N : Nat)  (v2 : Int32) (c : mm_C) : mR Int32 :=
  some (.inl v2, c)
set_option maxRecDepth 100000 in
theorem wX12_pick_66 {Z : mm_Z} {X : mm_T} {k w mc ms d n N : Nat} {Q : mm_O → mm_H → Prop} (C : mm_Ok Z qX12_pick X) (hRm : mt_R X = mm_rm d mc ms) (hd : 4 ≤ d) (hn : n + 1 < 1000000) (hk : k + 1 ≤ mc) (hw : w + 6 ≤ ms) {v2 : Int32} {c : mm_C} (hf : hO 0 ovI n (bX12_pick_66 N  v2 c) Q) : mG Z qX12_pick X k w mc ms Q (66, [(2, .int v2)], [], (n, c)) := by
  unfold bX12_pick_66 at hf
  refine mg_iload_n C rfl rfl ?_
  exact mh_ireturn C rfl (by omega) (by omega) rfl hf
def bX12_pick_60 (N : Nat)  (k7 : Nat → Int32 → Int32 → Int32 → Int32 → mm_C → mR Int32) (v0 : Nat) (v1 : Int32) (v2 : Int32) (v3 : Int32) (v4 : Int32) (c : mm_C) : mR Int32 :=
  k7 v0 v1 v2 v3 (v4 + 1) c
set_option maxRecDepth 100000 in
theorem wX12_pick_60 {Z : mm_Z} {X : mm_T} {k w mc ms d n N : Nat} {Q : mm_O → mm_H → Prop} (C : mm_Ok Z qX12_pick X) (hRm : mt_R X = mm_rm d mc ms) (hd : 4 ≤ d) (hn : n + 1 < 1000000) (hk : k + 1 ≤ mc) (hw : w + 6 ≤ ms) {k7 : Nat → Int32 → Int32 → Int32 → Int32 → mm_C → mR Int32} (hk7 : ∀ (v0 : Nat) (v1 : Int32) (v2 : Int32) (v3 : Int32) (v4 : Int32) (c : mm_C), hO 0 ovI n (k7 v0 v1 v2 v3 v4 c) Q → mG Z qX12_pick X k w mc ms Q (7, [(0, .ref v0), (1, .int v1), (2, .int v2), (3, .int v3), (4, .int v4)], [], (n, c))) {v0 : Nat} {v1 : Int32} {v2 : Int32} {v3 : Int32} {v4 : Int32} {c : mm_C} (hf : hO 0 ovI n (bX12_pick_60 N  k7 v0 v1 v2 v3 v4 c) Q) : mG Z qX12_pick X k w mc ms Q (60, [(0, .ref v0), (1, .int v1), (2, .int v2), (3, .int v3), (4, .int v4)], [], (n, c)) := by
  unfold bX12_pick_60 at hf
  refine mg_iinc (lv' := [(0, .ref v0), (1, .int v1), (2, .int v2), (3, .int v3), (4, .int (v4 + 1))]) C rfl (Nat.le_of_ble_eq_true rfl) rfl (show _ + Int32.ofInt 1 = _ + 1 by congr 1) rfl ?_
  refine mg_goto C rfl ?_
  exact hk7 _ _ _ _ _ _ hf
def bX12_pick_7 (N : Nat)  (k7 : Nat → Int32 → Int32 → Int32 → Int32 → mm_C → mR Int32) (v0 : Nat) (v1 : Int32) (v2 : Int32) (v3 : Int32) (v4 : Int32) (c : mm_C) : mR Int32 :=
  Option.bind (gR c v0 12 3) fun x1 => Option.bind (aI c x1 (0 : Int32)) fun x2 => if x2 ≤ v4 then (bX12_pick_66 N  v2 c) else (Option.bind (gR c v0 12 26) fun x3 => Option.bind (aI c x3 (0 : Int32)) fun x4 => cV 12 v0 c (fX12_whyNow N v0 v4 x4 c) fun r5 c6 => if r5 = 0 then (cV 12 v0 c6 (fX12_worthBy N v0 v1 v4 c6) fun r7 c8 => if v3 < r7 then (bX12_pick_60 N  k7 v0 v1 v4 r7 v4 c8) else (bX12_pick_60 N  k7 v0 v1 v2 v3 v4 c8)) else (bX12_pick_60 N  k7 v0 v1 v2 v3 v4 c6))
set_option maxRecDepth 100000 in
theorem wX12_pick_7 {Z : mm_Z} {X : mm_T} {k w mc ms d n N : Nat} {Q : mm_O → mm_H → Prop} (C : mm_Ok Z qX12_pick X) (hRm : mt_R X = mm_rm d mc ms) (hd : 4 ≤ d) (hn : n + 1 < 1000000) (hk : k + 1 ≤ mc) (hw : w + 6 ≤ ms) {k7 : Nat → Int32 → Int32 → Int32 → Int32 → mm_C → mR Int32} (hk7 : ∀ (v0 : Nat) (v1 : Int32) (v2 : Int32) (v3 : Int32) (v4 : Int32) (c : mm_C), hO 0 ovI n (k7 v0 v1 v2 v3 v4 c) Q → mG Z qX12_pick X k w mc ms Q (7, [(0, .ref v0), (1, .int v1), (2, .int v2), (3, .int v3), (4, .int v4)], [], (n, c))) {v0 : Nat} {v1 : Int32} {v2 : Int32} {v3 : Int32} {v4 : Int32} {c : mm_C} (hf : hO 0 ovI n (bX12_pick_7 N  k7 v0 v1 v2 v3 v4 c) Q) : mG Z qX12_pick X k w mc ms Q (7, [(0, .ref v0), (1, .int v1), (2, .int v2), (3, .int v3), (4, .int v4)], [], (n, c)) := by
  unfold bX12_pick_7 at hf
  refine mg_iload C rfl rfl ?_
  refine mg_aload_n C rfl rfl ?_
  refine mh_gR C rfl rfl rfl (by decide) hf (fun x1 hf => ?_)
  refine mg_iconst (v := 0) C rfl (by decide) ?_
  refine mh_aI C rfl hf (fun x2 hf => ?_)
  refine mh_icmp_ge C rfl hf (fun e_15 hf => ?_) (fun e_15 hf => ?_)
  · refine mg_sub (lv' := [(2, .int v2)]) (by simp) ?_
    exact wX12_pick_66 C hRm hd hn hk hw hf
  · refine mg_aload_n C rfl rfl ?_
    refine mg_iload C rfl rfl ?_
    refine mg_aload_n C rfl rfl ?_
    refine mh_gR C rfl rfl rfl (by decide) hf (fun x3 hf => ?_)
    refine mg_iconst (v := 0) C rfl (by decide) ?_
    refine mh_aI C rfl hf (fun x4 hf => ?_)
    refine mh_cVI (M' := qX12_whyNow) C rfl rfl aX12_whyNow iX12_whyNow sX12_whyNow hRm (by omega) (by decide) (by omega) (by omega) rfl rfl rfl (Nat.le_of_ble_eq_true rfl) rfl hf (fun hs => wX12_whyNow (by omega) (by omega) hs) (fun r5 c6 hf => ?_)
    refine mh_if_eq C rfl hf (fun e_30 hf => ?_) (fun e_30 hf => ?_)
    · refine mg_aload_n C rfl rfl ?_
      refine mg_iload_n C rfl rfl ?_
      refine mg_iload C rfl rfl ?_
      refine mh_cVI (M' := qX12_worthBy) C rfl rfl aX12_worthBy iX12_worthBy sX12_worthBy hRm (by omega) (by decide) (by omega) (by omega) rfl rfl rfl (Nat.le_of_ble_eq_true rfl) rfl hf (fun hs => wX12_worthBy (by omega) (by omega) hs) (fun r7 c8 hf => ?_)
      refine mg_istore (lv' := [(0, .ref v0), (1, .int v1), (2, .int v2), (3, .int v3), (4, .int v4), (5, .int r7)]) C rfl (Nat.le_of_ble_eq_true rfl) rfl ?_
      refine mg_iload C rfl rfl ?_
      refine mg_iload_n C rfl rfl ?_
      refine mh_icmp_gt C rfl hf (fun e_48 hf => ?_) (fun e_48 hf => ?_)
      · refine mg_iload C rfl rfl ?_
        refine mg_istore_n (lv' := [(0, .ref v0), (1, .int v1), (2, .int v4), (3, .int v3), (4, .int v4), (5, .int r7)]) C rfl (Nat.le_of_ble_eq_true rfl) rfl ?_
        refine mg_iload C rfl rfl ?_
        refine mg_istore_n (lv' := [(0, .ref v0), (1, .int v1), (2, .int v4), (3, .int r7), (4, .int v4), (5, .int r7)]) C rfl (Nat.le_of_ble_eq_true rfl) rfl ?_
        refine mg_sub (lv' := [(0, .ref v0), (1, .int v1), (2, .int v4), (3, .int r7), (4, .int v4)]) (by simp) ?_
        exact wX12_pick_60 C hRm hd hn hk hw hk7 hf
      · refine mg_goto C rfl ?_
        refine mg_sub (lv' := [(0, .ref v0), (1, .int v1), (2, .int v2), (3, .int v3), (4, .int v4)]) (by simp) ?_
        exact wX12_pick_60 C hRm hd hn hk hw hk7 hf
    · refine mg_goto C rfl ?_
      exact wX12_pick_60 C hRm hd hn hk hw hk7 hf
def lX12_pick_7 (N : Nat)  : Nat → Nat → Int32 → Int32 → Int32 → Int32 → mm_C → mR Int32
  | 0, _, _, _, _, _, _ => none
  | m + 1, v0, v1, v2, v3, v4, c => bX12_pick_7 N  (lX12_pick_7 N  m) v0 v1 v2 v3 v4 c
theorem WX12_pick_7 {Z : mm_Z} {X : mm_T} {k w mc ms d n N : Nat} {Q : mm_O → mm_H → Prop} (C : mm_Ok Z qX12_pick X) (hRm : mt_R X = mm_rm d mc ms) (hd : 4 ≤ d) (hn : n + 1 < 1000000) (hk : k + 1 ≤ mc) (hw : w + 6 ≤ ms) : ∀ (m : Nat) {v0 : Nat} {v1 : Int32} {v2 : Int32} {v3 : Int32} {v4 : Int32} {c : mm_C} (hf : hO 0 ovI n (lX12_pick_7 N  m v0 v1 v2 v3 v4 c) Q), mG Z qX12_pick X k w mc ms Q (7, [(0, .ref v0), (1, .int v1), (2, .int v2), (3, .int v3), (4, .int v4)], [], (n, c)) := by
  intro m
  induction m with
  | zero => intro v0 v1 v2 v3 v4 c hf; exact absurd hf hO_none
  | succ m ih => intro v0 v1 v2 v3 v4 c hf; exact wX12_pick_7 C hRm hd hn hk hw (fun v0 v1 v2 v3 v4 c hf => ih hf) hf
def bX12_pick_0 (N : Nat)  (v0 : Nat) (v1 : Int32) (c : mm_C) : mR Int32 :=
  lX12_pick_7 N  N v0 v1 (-1 : Int32) (0 : Int32) (0 : Int32) c
set_option maxRecDepth 100000 in
theorem wX12_pick_0 {Z : mm_Z} {X : mm_T} {k w mc ms d n N : Nat} {Q : mm_O → mm_H → Prop} (C : mm_Ok Z qX12_pick X) (hRm : mt_R X = mm_rm d mc ms) (hd : 4 ≤ d) (hn : n + 1 < 1000000) (hk : k + 1 ≤ mc) (hw : w + 6 ≤ ms) {v0 : Nat} {v1 : Int32} {c : mm_C} (hf : hO 0 ovI n (bX12_pick_0 N  v0 v1 c) Q) : mG Z qX12_pick X k w mc ms Q (0, [(0, .ref v0), (1, .int v1)], [], (n, c)) := by
  unfold bX12_pick_0 at hf
  refine mg_iconst (v := (-1)) C rfl (by decide) ?_
  refine mg_istore_n (lv' := [(0, .ref v0), (1, .int v1), (2, .int (-1 : Int32))]) C rfl (Nat.le_of_ble_eq_true rfl) rfl ?_
  refine mg_iconst (v := 0) C rfl (by decide) ?_
  refine mg_istore_n (lv' := [(0, .ref v0), (1, .int v1), (2, .int (-1 : Int32)), (3, .int (0 : Int32))]) C rfl (Nat.le_of_ble_eq_true rfl) rfl ?_
  refine mg_iconst (v := 0) C rfl (by decide) ?_
  refine mg_istore (lv' := [(0, .ref v0), (1, .int v1), (2, .int (-1 : Int32)), (3, .int (0 : Int32)), (4, .int (0 : Int32))]) C rfl (Nat.le_of_ble_eq_true rfl) rfl ?_
  exact WX12_pick_7 C hRm hd hn hk hw N hf
def fX12_pick (N : Nat) (v0 : Nat) (v1 : Int32) (c : mm_C) : mR Int32 := bX12_pick_0 N v0 v1 c
set_option maxRecDepth 100000 in
theorem wX12_pick {Z : mm_Z} {d n N : Nat} (hd : 4 ≤ d) (hn : n + 1 < 1000000) {v0 : Nat} {v1 : Int32} {c : mm_C} (hs : (fX12_pick N v0 v1 c).isSome = true) : mC Z qX12_pick d 1 6 [.ref v0, .int v1] (n, c) (mP 0 ovI n (fX12_pick N v0 v1 c)) := by
  refine mC_of gX12_pick (by decide +kernel) (Nat.le_of_ble_eq_true rfl) fun X C hRm => ?_
  have hf := hO_mP 0 ovI n hs
  have hk : 0 + 1 ≤ 1 := Nat.le_of_ble_eq_true rfl
  have hw : 0 + 6 ≤ 6 := Nat.le_of_ble_eq_true rfl
  show mG _ _ _ _ _ _ _ _ (0, [(0, .ref v0), (1, .int v1)], [], (n, c))
  exact wX12_pick_0 C hRm hd hn hk hw hf
def bX12_isSome_84 (N : Nat)  (k2 : Nat → Int32 → Int32 → mm_C → mR Int32) (v0 : Nat) (v1 : Int32) (v2 : Int32) (c : mm_C) : mR Int32 :=
  k2 v0 v1 (v2 + 1) c
set_option maxRecDepth 100000 in
theorem wX12_isSome_84 {Z : mm_Z} {X : mm_T} {k w mc ms d n N : Nat} {Q : mm_O → mm_H → Prop} (C : mm_Ok Z qX12_isSome X) (hRm : mt_R X = mm_rm d mc ms) (hd : 2 ≤ d) (hn : n + 1 < 1000000) (hk : k + 1 ≤ mc) (hw : w + 6 ≤ ms) {k2 : Nat → Int32 → Int32 → mm_C → mR Int32} (hk2 : ∀ (v0 : Nat) (v1 : Int32) (v2 : Int32) (c : mm_C), hO 0 ovI n (k2 v0 v1 v2 c) Q → mG Z qX12_isSome X k w mc ms Q (2, [(0, .ref v0), (1, .int v1), (2, .int v2)], [], (n, c))) {v0 : Nat} {v1 : Int32} {v2 : Int32} {c : mm_C} (hf : hO 0 ovI n (bX12_isSome_84 N  k2 v0 v1 v2 c) Q) : mG Z qX12_isSome X k w mc ms Q (84, [(0, .ref v0), (1, .int v1), (2, .int v2)], [], (n, c)) := by
  unfold bX12_isSome_84 at hf
  refine mg_iinc (lv' := [(0, .ref v0), (1, .int v1), (2, .int (v2 + 1))]) C rfl (Nat.le_of_ble_eq_true rfl) rfl (show _ + Int32.ofInt 1 = _ + 1 by congr 1) rfl ?_
  refine mg_goto C rfl ?_
  exact hk2 _ _ _ _ hf
def bX12_isSome_78 (N : Nat)  (k2 : Nat → Int32 → Int32 → mm_C → mR Int32) (v0 : Nat) (v1 : Int32) (v2 : Int32) (s0 : Int32) (c : mm_C) : mR Int32 :=
  if ¬ s0 = v1 then (bX12_isSome_84 N  k2 v0 v1 v2 c) else (rZ (1 : Int32) c)
set_option maxRecDepth 100000 in
theorem wX12_isSome_78 {Z : mm_Z} {X : mm_T} {k w mc ms d n N : Nat} {Q : mm_O → mm_H → Prop} (C : mm_Ok Z qX12_isSome X) (hRm : mt_R X = mm_rm d mc ms) (hd : 2 ≤ d) (hn : n + 1 < 1000000) (hk : k + 1 ≤ mc) (hw : w + 6 ≤ ms) {k2 : Nat → Int32 → Int32 → mm_C → mR Int32} (hk2 : ∀ (v0 : Nat) (v1 : Int32) (v2 : Int32) (c : mm_C), hO 0 ovI n (k2 v0 v1 v2 c) Q → mG Z qX12_isSome X k w mc ms Q (2, [(0, .ref v0), (1, .int v1), (2, .int v2)], [], (n, c))) {v0 : Nat} {v1 : Int32} {v2 : Int32} {s0 : Int32} {c : mm_C} (hf : hO 0 ovI n (bX12_isSome_78 N  k2 v0 v1 v2 s0 c) Q) : mG Z qX12_isSome X k w mc ms Q (78, [(0, .ref v0), (1, .int v1), (2, .int v2)], [.int s0], (n, c)) := by
  unfold bX12_isSome_78 at hf
  refine mg_iload_n C rfl rfl ?_
  refine mh_icmp_ne C rfl hf (fun e_79 hf => ?_) (fun e_79 hf => ?_)
  · exact wX12_isSome_84 C hRm hd hn hk hw hk2 hf
  · refine mg_iconst (v := 1) C rfl (by decide) ?_
    exact mh_zreturn C rfl (by omega) (by omega) rfl hf
def bX12_isSome_58 (N : Nat)  (k2 : Nat → Int32 → Int32 → mm_C → mR Int32) (v0 : Nat) (v1 : Int32) (v2 : Int32) (s0 : Int32) (c : mm_C) : mR Int32 :=
  if s0 = 0 then (bX12_isSome_84 N  k2 v0 v1 v2 c) else (Option.bind (gR c v0 12 4) fun x1 => Option.bind (aI c x1 v2) fun x2 => if ¬ x2 = (2 : Int32) then (bX12_isSome_78 N  k2 v0 v1 v2 (0 : Int32) c) else (bX12_isSome_78 N  k2 v0 v1 v2 (1 : Int32) c))
set_option maxRecDepth 100000 in
theorem wX12_isSome_58 {Z : mm_Z} {X : mm_T} {k w mc ms d n N : Nat} {Q : mm_O → mm_H → Prop} (C : mm_Ok Z qX12_isSome X) (hRm : mt_R X = mm_rm d mc ms) (hd : 2 ≤ d) (hn : n + 1 < 1000000) (hk : k + 1 ≤ mc) (hw : w + 6 ≤ ms) {k2 : Nat → Int32 → Int32 → mm_C → mR Int32} (hk2 : ∀ (v0 : Nat) (v1 : Int32) (v2 : Int32) (c : mm_C), hO 0 ovI n (k2 v0 v1 v2 c) Q → mG Z qX12_isSome X k w mc ms Q (2, [(0, .ref v0), (1, .int v1), (2, .int v2)], [], (n, c))) {v0 : Nat} {v1 : Int32} {v2 : Int32} {s0 : Int32} {c : mm_C} (hf : hO 0 ovI n (bX12_isSome_58 N  k2 v0 v1 v2 s0 c) Q) : mG Z qX12_isSome X k w mc ms Q (58, [(0, .ref v0), (1, .int v1), (2, .int v2)], [.int s0], (n, c)) := by
  unfold bX12_isSome_58 at hf
  refine mg_istore_n (lv' := [(0, .ref v0), (1, .int v1), (2, .int v2), (3, .int s0)]) C rfl (Nat.le_of_ble_eq_true rfl) rfl ?_
  refine mg_iload_n C rfl rfl ?_
  refine mh_if_eq C rfl hf (fun e_60 hf => ?_) (fun e_60 hf => ?_)
  · refine mg_sub (lv' := [(0, .ref v0), (1, .int v1), (2, .int v2)]) (by simp) ?_
    exact wX12_isSome_84 C hRm hd hn hk hw hk2 hf
  · refine mg_aload_n C rfl rfl ?_
    refine mh_gR C rfl rfl rfl (by decide) hf (fun x1 hf => ?_)
    refine mg_iload_n C rfl rfl ?_
    refine mh_aI C rfl hf (fun x2 hf => ?_)
    refine mg_iconst (v := 2) C rfl (by decide) ?_
    refine mh_icmp_ne C rfl hf (fun e_70 hf => ?_) (fun e_70 hf => ?_)
    · refine mg_iconst (v := 0) C rfl (by decide) ?_
      refine mg_sub (lv' := [(0, .ref v0), (1, .int v1), (2, .int v2)]) (by simp) ?_
      exact wX12_isSome_78 C hRm hd hn hk hw hk2 hf
    · refine mg_iconst (v := 1) C rfl (by decide) ?_
      refine mg_goto C rfl ?_
      refine mg_sub (lv' := [(0, .ref v0), (1, .int v1), (2, .int v2)]) (by simp) ?_
      exact wX12_isSome_78 C hRm hd hn hk hw hk2 hf
def bX12_isSome_57 (N : Nat)  (k2 : Nat → Int32 → Int32 → mm_C → mR Int32) (v0 : Nat) (v1 : Int32) (v2 : Int32) (c : mm_C) : mR Int32 :=
  bX12_isSome_58 N  k2 v0 v1 v2 (0 : Int32) c
set_option maxRecDepth 100000 in
theorem wX12_isSome_57 {Z : mm_Z} {X : mm_T} {k w mc ms d n N : Nat} {Q : mm_O → mm_H → Prop} (C : mm_Ok Z qX12_isSome X) (hRm : mt_R X = mm_rm d mc ms) (hd : 2 ≤ d) (hn : n + 1 < 1000000) (hk : k + 1 ≤ mc) (hw : w + 6 ≤ ms) {k2 : Nat → Int32 → Int32 → mm_C → mR Int32} (hk2 : ∀ (v0 : Nat) (v1 : Int32) (v2 : Int32) (c : mm_C), hO 0 ovI n (k2 v0 v1 v2 c) Q → mG Z qX12_isSome X k w mc ms Q (2, [(0, .ref v0), (1, .int v1), (2, .int v2)], [], (n, c))) {v0 : Nat} {v1 : Int32} {v2 : Int32} {c : mm_C} (hf : hO 0 ovI n (bX12_isSome_57 N  k2 v0 v1 v2 c) Q) : mG Z qX12_isSome X k w mc ms Q (57, [(0, .ref v0), (1, .int v1), (2, .int v2)], [], (n, c)) := by
  unfold bX12_isSome_57 at hf
  refine mg_iconst (v := 0) C rfl (by decide) ?_
  exact wX12_isSome_58 C hRm hd hn hk hw hk2 hf
def bX12_isSome_53 (N : Nat)  (k2 : Nat → Int32 → Int32 → mm_C → mR Int32) (v0 : Nat) (v1 : Int32) (v2 : Int32) (c : mm_C) : mR Int32 :=
  bX12_isSome_58 N  k2 v0 v1 v2 (1 : Int32) c
set_option maxRecDepth 100000 in
theorem wX12_isSome_53 {Z : mm_Z} {X : mm_T} {k w mc ms d n N : Nat} {Q : mm_O → mm_H → Prop} (C : mm_Ok Z qX12_isSome X) (hRm : mt_R X = mm_rm d mc ms) (hd : 2 ≤ d) (hn : n + 1 < 1000000) (hk : k + 1 ≤ mc) (hw : w + 6 ≤ ms) {k2 : Nat → Int32 → Int32 → mm_C → mR Int32} (hk2 : ∀ (v0 : Nat) (v1 : Int32) (v2 : Int32) (c : mm_C), hO 0 ovI n (k2 v0 v1 v2 c) Q → mG Z qX12_isSome X k w mc ms Q (2, [(0, .ref v0), (1, .int v1), (2, .int v2)], [], (n, c))) {v0 : Nat} {v1 : Int32} {v2 : Int32} {c : mm_C} (hf : hO 0 ovI n (bX12_isSome_53 N  k2 v0 v1 v2 c) Q) : mG Z qX12_isSome X k w mc ms Q (53, [(0, .ref v0), (1, .int v1), (2, .int v2)], [], (n, c)) := by
  unfold bX12_isSome_53 at hf
  refine mg_iconst (v := 1) C rfl (by decide) ?_
  refine mg_goto C rfl ?_
  exact wX12_isSome_58 C hRm hd hn hk hw hk2 hf
def bX12_isSome_2 (N : Nat)  (k2 : Nat → Int32 → Int32 → mm_C → mR Int32) (v0 : Nat) (v1 : Int32) (v2 : Int32) (c : mm_C) : mR Int32 :=
  Option.bind (gR c v0 12 3) fun x1 => Option.bind (aI c x1 (0 : Int32)) fun x2 => if x2 ≤ v2 then (rZ (0 : Int32) c) else (Option.bind (gR c v0 12 26) fun x3 => Option.bind (aI c x3 (2 : Int32)) fun x4 => cS (fX12_isOf N x4 v2 c) fun r5 c6 => if ¬ r5 = 0 then (bX12_isSome_57 N  k2 v0 v1 v2 c6) else (Option.bind (gR c6 v0 12 9) fun x7 => Option.bind (aI c6 x7 v2) fun x8 => if x8 = (-1 : Int32) then (bX12_isSome_53 N  k2 v0 v1 v2 c6) else (Option.bind (gR c6 v0 12 26) fun x9 => Option.bind (aI c6 x9 (2 : Int32)) fun x10 => Option.bind (gR c6 v0 12 9) fun x11 => Option.bind (aI c6 x11 v2) fun x12 => cS (fX12_isOf N x10 x12 c6) fun r13 c14 => if r13 = 0 then (bX12_isSome_57 N  k2 v0 v1 v2 c14) else (bX12_isSome_53 N  k2 v0 v1 v2 c14))))
set_option maxRecDepth 100000 in
theorem wX12_isSome_2 {Z : mm_Z} {X : mm_T} {k w mc ms d n N : Nat} {Q : mm_O → mm_H → Prop} (C : mm_Ok Z qX12_isSome X) (hRm : mt_R X = mm_rm d mc ms) (hd : 2 ≤ d) (hn : n + 1 < 1000000) (hk : k + 1 ≤ mc) (hw : w + 6 ≤ ms) {k2 : Nat → Int32 → Int32 → mm_C → mR Int32} (hk2 : ∀ (v0 : Nat) (v1 : Int32) (v2 : Int32) (c : mm_C), hO 0 ovI n (k2 v0 v1 v2 c) Q → mG Z qX12_isSome X k w mc ms Q (2, [(0, .ref v0), (1, .int v1), (2, .int v2)], [], (n, c))) {v0 : Nat} {v1 : Int32} {v2 : Int32} {c : mm_C} (hf : hO 0 ovI n (bX12_isSome_2 N  k2 v0 v1 v2 c) Q) : mG Z qX12_isSome X k w mc ms Q (2, [(0, .ref v0), (1, .int v1), (2, .int v2)], [], (n, c)) := by
  unfold bX12_isSome_2 at hf
  refine mg_iload_n C rfl rfl ?_
  refine mg_aload_n C rfl rfl ?_
  refine mh_gR C rfl rfl rfl (by decide) hf (fun x1 hf => ?_)
  refine mg_iconst (v := 0) C rfl (by decide) ?_
  refine mh_aI C rfl hf (fun x2 hf => ?_)
  refine mh_icmp_ge C rfl hf (fun e_9 hf => ?_) (fun e_9 hf => ?_)
  · refine mg_iconst (v := 0) C rfl (by decide) ?_
    exact mh_zreturn C rfl (by omega) (by omega) rfl hf
  · refine mg_aload_n C rfl rfl ?_
    refine mh_gR C rfl rfl rfl (by decide) hf (fun x3 hf => ?_)
    refine mg_iconst (v := 2) C rfl (by decide) ?_
    refine mh_aI C rfl hf (fun x4 hf => ?_)
    refine mg_iload_n C rfl rfl ?_
    refine mh_cSI (M' := qX12_isOf) C rfl rfl aX12_isOf tX12_isOf hRm (by omega) (by decide) (by omega) (by omega) rfl rfl (Nat.le_of_ble_eq_true rfl) rfl hf (fun hs => wX12_isOf (by omega) (by omega) hs) (fun r5 c6 hf => ?_)
    refine mh_if_ne C rfl hf (fun e_22 hf => ?_) (fun e_22 hf => ?_)
    · exact wX12_isSome_57 C hRm hd hn hk hw hk2 hf
    · refine mg_aload_n C rfl rfl ?_
      refine mh_gR C rfl rfl rfl (by decide) hf (fun x7 hf => ?_)
      refine mg_iload_n C rfl rfl ?_
      refine mh_aI C rfl hf (fun x8 hf => ?_)
      refine mg_iconst (v := (-1)) C rfl (by decide) ?_
      refine mh_icmp_eq C rfl hf (fun e_32 hf => ?_) (fun e_32 hf => ?_)
      · exact wX12_isSome_53 C hRm hd hn hk hw hk2 hf
      · refine mg_aload_n C rfl rfl ?_
        refine mh_gR C rfl rfl rfl (by decide) hf (fun x9 hf => ?_)
        refine mg_iconst (v := 2) C rfl (by decide) ?_
        refine mh_aI C rfl hf (fun x10 hf => ?_)
        refine mg_aload_n C rfl rfl ?_
        refine mh_gR C rfl rfl rfl (by decide) hf (fun x11 hf => ?_)
        refine mg_iload_n C rfl rfl ?_
        refine mh_aI C rfl hf (fun x12 hf => ?_)
        refine mh_cSI (M' := qX12_isOf) C rfl rfl aX12_isOf tX12_isOf hRm (by omega) (by decide) (by omega) (by omega) rfl rfl (Nat.le_of_ble_eq_true rfl) rfl hf (fun hs => wX12_isOf (by omega) (by omega) hs) (fun r13 c14 hf => ?_)
        refine mh_if_eq C rfl hf (fun e_50 hf => ?_) (fun e_50 hf => ?_)
        · exact wX12_isSome_57 C hRm hd hn hk hw hk2 hf
        · exact wX12_isSome_53 C hRm hd hn hk hw hk2 hf
def lX12_isSome_2 (N : Nat)  : Nat → Nat → Int32 → Int32 → mm_C → mR Int32
  | 0, _, _, _, _ => none
  | m + 1, v0, v1, v2, c => bX12_isSome_2 N  (lX12_isSome_2 N  m) v0 v1 v2 c
theorem WX12_isSome_2 {Z : mm_Z} {X : mm_T} {k w mc ms d n N : Nat} {Q : mm_O → mm_H → Prop} (C : mm_Ok Z qX12_isSome X) (hRm : mt_R X = mm_rm d mc ms) (hd : 2 ≤ d) (hn : n + 1 < 1000000) (hk : k + 1 ≤ mc) (hw : w + 6 ≤ ms) : ∀ (m : Nat) {v0 : Nat} {v1 : Int32} {v2 : Int32} {c : mm_C} (hf : hO 0 ovI n (lX12_isSome_2 N  m v0 v1 v2 c) Q), mG Z qX12_isSome X k w mc ms Q (2, [(0, .ref v0), (1, .int v1), (2, .int v2)], [], (n, c)) := by
  intro m
  induction m with
  | zero => intro v0 v1 v2 c hf; exact absurd hf hO_none
  | succ m ih => intro v0 v1 v2 c hf; exact wX12_isSome_2 C hRm hd hn hk hw (fun v0 v1 v2 c hf => ih hf) hf
def bX12_isSome_0 (N : Nat)  (v0 : Nat) (v1 : Int32) (c : mm_C) : mR Int32 :=
  lX12_isSome_2 N  N v0 v1 (0 : Int32) c
set_option maxRecDepth 100000 in
theorem wX12_isSome_0 {Z : mm_Z} {X : mm_T} {k w mc ms d n N : Nat} {Q : mm_O → mm_H → Prop} (C : mm_Ok Z qX12_isSome X) (hRm : mt_R X = mm_rm d mc ms) (hd : 2 ≤ d) (hn : n + 1 < 1000000) (hk : k + 1 ≤ mc) (hw : w + 6 ≤ ms) {v0 : Nat} {v1 : Int32} {c : mm_C} (hf : hO 0 ovI n (bX12_isSome_0 N  v0 v1 c) Q) : mG Z qX12_isSome X k w mc ms Q (0, [(0, .ref v0), (1, .int v1)], [], (n, c)) := by
  unfold bX12_isSome_0 at hf
  refine mg_iconst (v := 0) C rfl (by decide) ?_
  refine mg_istore_n (lv' := [(0, .ref v0), (1, .int v1), (2, .int (0 : Int32))]) C rfl (Nat.le_of_ble_eq_true rfl) rfl ?_
  exact WX12_isSome_2 C hRm hd hn hk hw N hf
def fX12_isSome (N : Nat) (v0 : Nat) (v1 : Int32) (c : mm_C) : mR Int32 := bX12_isSome_0 N v0 v1 c
set_option maxRecDepth 100000 in
theorem wX12_isSome {Z : mm_Z} {d n N : Nat} (hd : 2 ≤ d) (hn : n + 1 < 1000000) {v0 : Nat} {v1 : Int32} {c : mm_C} (hs : (fX12_isSome N v0 v1 c).isSome = true) : mC Z qX12_isSome d 1 6 [.ref v0, .int v1] (n, c) (mP 0 ovI n (fX12_isSome N v0 v1 c)) := by
  refine mC_of gX12_isSome (by decide +kernel) (Nat.le_of_ble_eq_true rfl) fun X C hRm => ?_
  have hf := hO_mP 0 ovI n hs
  have hk : 0 + 1 ≤ 1 := Nat.le_of_ble_eq_true rfl
  have hw : 0 + 6 ≤ 6 := Nat.le_of_ble_eq_true rfl
  show mG _ _ _ _ _ _ _ _ (0, [(0, .ref v0), (1, .int v1)], [], (n, c))
  exact wX12_isSome_0 C hRm hd hn hk hw hf
def bX12_stepBy_156 (N : Nat)  (v0 : Nat) (c : mm_C) : mR Unit :=
  Option.bind (gR c v0 12 26) fun x1 => Option.bind (aI c x1 (0 : Int32)) fun x2 => Option.bind (tI c x1 (0 : Int32) (x2 + (1 : Int32))) fun c3 => Option.bind (gR c3 v0 12 26) fun x4 => Option.bind (aI c3 x4 (3 : Int32)) fun x5 => Option.bind (tI c3 x4 (3 : Int32) (x5 + (1 : Int32))) fun c6 => Option.bind (gI c6 v0 12 39) fun x7 => Option.bind (pI c6 v0 12 39 (x7 + (1 : Int32))) fun c8 => some (.inl (), c8)
set_option maxRecDepth 100000 in
theorem wX12_stepBy_156 {Z : mm_Z} {X : mm_T} {k w mc ms d n N : Nat} {Q : mm_O → mm_H → Prop} (C : mm_Ok Z qX12_stepBy X) (hRm : mt_R X = mm_rm d mc ms) (hd : 5 ≤ d) (hn : n + 1 < 1000000) (hk : k + 1 ≤ mc) (hw : w + 6 ≤ ms) {v0 : Nat} {c : mm_C} (hf : hO 0 ovU n (bX12_stepBy_156 N  v0 c) Q) : mG Z qX12_stepBy X k w mc ms Q (156, [(0, .ref v0)], [], (n, c)) := by
  unfold bX12_stepBy_156 at hf
  refine mg_aload_n C rfl rfl ?_
  refine mh_gR C rfl rfl rfl (by decide) hf (fun x1 hf => ?_)
  refine mg_iconst (v := 0) C rfl (by decide) ?_
  refine mg_dup2 C rfl rfl rfl ?_
  refine mh_aI C rfl hf (fun x2 hf => ?_)
  refine mg_iconst (v := 1) C rfl (by decide) ?_
  refine mg_iadd C rfl ?_
  refine mh_tI C rfl hf (fun c3 hf => ?_)
  refine mg_aload_n C rfl rfl ?_
  refine mh_gR C rfl rfl rfl (by decide) hf (fun x4 hf => ?_)
  refine mg_iconst (v := 3) C rfl (by decide) ?_
  refine mg_dup2 C rfl rfl rfl ?_
  refine mh_aI C rfl hf (fun x5 hf => ?_)
  refine mg_iconst (v := 1) C rfl (by decide) ?_
  refine mg_iadd C rfl ?_
  refine mh_tI C rfl hf (fun c6 hf => ?_)
  refine mg_aload_n C rfl rfl ?_
  refine mg_dup C rfl rfl ?_
  refine mh_gI C rfl rfl rfl (by decide) hf (fun x7 hf => ?_)
  refine mg_iconst (v := 1) C rfl (by decide) ?_
  refine mg_iadd C rfl ?_
  refine mh_pI C rfl rfl rfl (by decide) rfl rfl rfl hf (fun c8 hf => ?_)
  exact mh_return C rfl (by omega) (by omega) rfl hf
def bX12_stepBy_113 (N : Nat)  (v0 : Nat) (s0 : Nat) (s1 : Int32) (c : mm_C) : mR Unit :=
  cV 12 s0 c (fX12_isSome N s0 s1 c) fun r1 c2 => if r1 = 0 then (bX12_stepBy_156 N  v0 c2) else (Option.bind (gR c2 v0 12 26) fun x3 => Option.bind (aI c2 x3 (0 : Int32)) fun x4 => Option.bind (gR c2 v0 12 3) fun x5 => Option.bind (aI c2 x5 (2 : Int32)) fun x6 => Option.bind (gI c2 v0 12 30) fun x7 => if x7 ≤ (x4 + x6) then (bX12_stepBy_156 N  v0 c2) else (cV 12 v0 c2 (fX12_moves N v0 c2) fun (_ : Unit) c8 => Option.bind (gI c8 v0 12 40) fun x9 => Option.bind (pI c8 v0 12 40 (x9 + (1 : Int32))) fun c10 => some (.inl (), c10)))
set_option maxRecDepth 100000 in
theorem wX12_stepBy_113 {Z : mm_Z} {X : mm_T} {k w mc ms d n N : Nat} {Q : mm_O → mm_H → Prop} (C : mm_Ok Z qX12_stepBy X) (hRm : mt_R X = mm_rm d mc ms) (hd : 5 ≤ d) (hn : n + 1 < 1000000) (hk : k + 1 ≤ mc) (hw : w + 6 ≤ ms) {v0 : Nat} {s0 : Nat} {s1 : Int32} {c : mm_C} (hf : hO 0 ovU n (bX12_stepBy_113 N  v0 s0 s1 c) Q) : mG Z qX12_stepBy X k w mc ms Q (113, [(0, .ref v0)], [.int s1, .ref s0], (n, c)) := by
  unfold bX12_stepBy_113 at hf
  refine mh_cVI (M' := qX12_isSome) C rfl rfl aX12_isSome iX12_isSome sX12_isSome hRm (by omega) (by decide) (by omega) (by omega) rfl rfl rfl (Nat.le_of_ble_eq_true rfl) rfl hf (fun hs => wX12_isSome (by omega) (by omega) hs) (fun r1 c2 hf => ?_)
  refine mh_if_eq C rfl hf (fun e_116 hf => ?_) (fun e_116 hf => ?_)
  · exact wX12_stepBy_156 C hRm hd hn hk hw hf
  · refine mg_aload_n C rfl rfl ?_
    refine mh_gR C rfl rfl rfl (by decide) hf (fun x3 hf => ?_)
    refine mg_iconst (v := 0) C rfl (by decide) ?_
    refine mh_aI C rfl hf (fun x4 hf => ?_)
    refine mg_aload_n C rfl rfl ?_
    refine mh_gR C rfl rfl rfl (by decide) hf (fun x5 hf => ?_)
    refine mg_iconst (v := 2) C rfl (by decide) ?_
    refine mh_aI C rfl hf (fun x6 hf => ?_)
    refine mg_iadd C rfl ?_
    refine mg_aload_n C rfl rfl ?_
    refine mh_gI C rfl rfl rfl (by decide) hf (fun x7 hf => ?_)
    refine mh_icmp_ge C rfl hf (fun e_136 hf => ?_) (fun e_136 hf => ?_)
    · exact wX12_stepBy_156 C hRm hd hn hk hw hf
    · refine mg_aload_n C rfl rfl ?_
      refine mh_cVU (M' := qX12_moves) C rfl rfl aX12_moves iX12_moves sX12_moves hRm (by omega) (by decide) (by omega) (by omega) rfl rfl rfl (Nat.le_of_ble_eq_true rfl) rfl hf (fun hs => wX12_moves (by omega) (by omega) hs) (fun c8 hf => ?_)
      refine mg_aload_n C rfl rfl ?_
      refine mg_dup C rfl rfl ?_
      refine mh_gI C rfl rfl rfl (by decide) hf (fun x9 hf => ?_)
      refine mg_iconst (v := 1) C rfl (by decide) ?_
      refine mg_iadd C rfl ?_
      refine mh_pI C rfl rfl rfl (by decide) rfl rfl rfl hf (fun c10 hf => ?_)
      refine mg_goto C rfl ?_
      exact mh_return C rfl (by omega) (by omega) rfl hf
def bX12_stepBy_88 (N : Nat)  (s0 : Nat) (s1 : Int32) (s2 : Int32) (c : mm_C) : mR Unit :=
  Option.bind (pI c s0 12 37 (s1 + s2)) fun c1 => some (.inl (), c1)
set_option maxRecDepth 100000 in
theorem wX12_stepBy_88 {Z : mm_Z} {X : mm_T} {k w mc ms d n N : Nat} {Q : mm_O → mm_H → Prop} (C : mm_Ok Z qX12_stepBy X) (hRm : mt_R X = mm_rm d mc ms) (hd : 5 ≤ d) (hn : n + 1 < 1000000) (hk : k + 1 ≤ mc) (hw : w + 6 ≤ ms) {s0 : Nat} {s1 : Int32} {s2 : Int32} {c : mm_C} (hf : hO 0 ovU n (bX12_stepBy_88 N  s0 s1 s2 c) Q) : mG Z qX12_stepBy X k w mc ms Q (88, [], [.int s2, .int s1, .ref s0], (n, c)) := by
  unfold bX12_stepBy_88 at hf
  refine mg_iadd C rfl ?_
  refine mh_pI C rfl rfl rfl (by decide) rfl rfl rfl hf (fun c1 hf => ?_)
  refine mg_goto C rfl ?_
  exact mh_return C rfl (by omega) (by omega) rfl hf
def bX12_stepBy_73 (N : Nat)  (v0 : Nat) (v4 : Int32) (c : mm_C) : mR Unit :=
  Option.bind (gI c v0 12 37) fun x1 => if v4 = 0 then (bX12_stepBy_88 N  v0 x1 (1 : Int32) c) else (bX12_stepBy_88 N  v0 x1 (0 : Int32) c)
set_option maxRecDepth 100000 in
theorem wX12_stepBy_73 {Z : mm_Z} {X : mm_T} {k w mc ms d n N : Nat} {Q : mm_O → mm_H → Prop} (C : mm_Ok Z qX12_stepBy X) (hRm : mt_R X = mm_rm d mc ms) (hd : 5 ≤ d) (hn : n + 1 < 1000000) (hk : k + 1 ≤ mc) (hw : w + 6 ≤ ms) {v0 : Nat} {v4 : Int32} {c : mm_C} (hf : hO 0 ovU n (bX12_stepBy_73 N  v0 v4 c) Q) : mG Z qX12_stepBy X k w mc ms Q (73, [(0, .ref v0), (4, .int v4)], [], (n, c)) := by
  unfold bX12_stepBy_73 at hf
  refine mg_aload_n C rfl rfl ?_
  refine mg_dup C rfl rfl ?_
  refine mh_gI C rfl rfl rfl (by decide) hf (fun x1 hf => ?_)
  refine mg_iload C rfl rfl ?_
  refine mh_if_eq C rfl hf (fun e_80 hf => ?_) (fun e_80 hf => ?_)
  · refine mg_iconst (v := 1) C rfl (by decide) ?_
    refine mg_sub (lv' := []) (by simp) ?_
    exact wX12_stepBy_88 C hRm hd hn hk hw hf
  · refine mg_iconst (v := 0) C rfl (by decide) ?_
    refine mg_goto C rfl ?_
    refine mg_sub (lv' := []) (by simp) ?_
    exact wX12_stepBy_88 C hRm hd hn hk hw hf
def bX12_stepBy_21 (N : Nat)  (v0 : Nat) (v2 : Int32) (s0 : Int32) (c : mm_C) : mR Unit :=
  if v2 = (-1 : Int32) then (cV 12 v0 c (fX12_isSome N v0 s0 c) fun r1 c2 => if ¬ r1 = 0 then (bX12_stepBy_156 N  v0 c2) else (if ¬ s0 = 0 then (bX12_stepBy_113 N  v0 v0 (0 : Int32) c2) else (bX12_stepBy_113 N  v0 v0 (1 : Int32) c2))) else (cV 12 v0 c (fX12_takes N v0 v2 c) fun r3 c4 => if r3 = 0 then (bX12_stepBy_73 N  v0 r3 c4) else (Option.bind (gI c4 v0 12 35) fun x5 => Option.bind (pI c4 v0 12 35 (x5 ||| ((1 : Int32) <<< (v2 &&& 31)))) fun c6 => Option.bind (gR c6 v0 12 34) fun x7 => Option.bind (gR c6 v0 12 26) fun x8 => Option.bind (aI c6 x8 (0 : Int32)) fun x9 => Option.bind (tI c6 x7 v2 x9) fun c10 => Option.bind (gR c10 v0 12 26) fun x11 => Option.bind (aI c10 x11 (0 : Int32)) fun x12 => Option.bind (pI c10 v0 12 38 x12) fun c13 => bX12_stepBy_73 N  v0 r3 c13))
set_option maxRecDepth 100000 in
theorem wX12_stepBy_21 {Z : mm_Z} {X : mm_T} {k w mc ms d n N : Nat} {Q : mm_O → mm_H → Prop} (C : mm_Ok Z qX12_stepBy X) (hRm : mt_R X = mm_rm d mc ms) (hd : 5 ≤ d) (hn : n + 1 < 1000000) (hk : k + 1 ≤ mc) (hw : w + 6 ≤ ms) {v0 : Nat} {v2 : Int32} {s0 : Int32} {c : mm_C} (hf : hO 0 ovU n (bX12_stepBy_21 N  v0 v2 s0 c) Q) : mG Z qX12_stepBy X k w mc ms Q (21, [(0, .ref v0), (2, .int v2)], [.int s0], (n, c)) := by
  unfold bX12_stepBy_21 at hf
  refine mg_istore_n (lv' := [(0, .ref v0), (2, .int v2), (3, .int s0)]) C rfl (Nat.le_of_ble_eq_true rfl) rfl ?_
  refine mg_iload_n C rfl rfl ?_
  refine mg_iconst (v := (-1)) C rfl (by decide) ?_
  refine mh_icmp_eq C rfl hf (fun e_24 hf => ?_) (fun e_24 hf => ?_)
  · refine mg_aload_n C rfl rfl ?_
    refine mg_iload_n C rfl rfl ?_
    refine mh_cVI (M' := qX12_isSome) C rfl rfl aX12_isSome iX12_isSome sX12_isSome hRm (by omega) (by decide) (by omega) (by omega) rfl rfl rfl (Nat.le_of_ble_eq_true rfl) rfl hf (fun hs => wX12_isSome (by omega) (by omega) hs) (fun r1 c2 hf => ?_)
    refine mh_if_ne C rfl hf (fun e_100 hf => ?_) (fun e_100 hf => ?_)
    · refine mg_sub (lv' := [(0, .ref v0)]) (by simp) ?_
      exact wX12_stepBy_156 C hRm hd hn hk hw hf
    · refine mg_aload_n C rfl rfl ?_
      refine mg_iload_n C rfl rfl ?_
      refine mh_if_ne C rfl hf (fun e_105 hf => ?_) (fun e_105 hf => ?_)
      · refine mg_iconst (v := 0) C rfl (by decide) ?_
        refine mg_sub (lv' := [(0, .ref v0)]) (by simp) ?_
        exact wX12_stepBy_113 C hRm hd hn hk hw hf
      · refine mg_iconst (v := 1) C rfl (by decide) ?_
        refine mg_goto C rfl ?_
        refine mg_sub (lv' := [(0, .ref v0)]) (by simp) ?_
        exact wX12_stepBy_113 C hRm hd hn hk hw hf
  · refine mg_aload_n C rfl rfl ?_
    refine mg_iload_n C rfl rfl ?_
    refine mh_cVI (M' := qX12_takes) C rfl rfl aX12_takes iX12_takes sX12_takes hRm (by omega) (by decide) (by omega) (by omega) rfl rfl rfl (Nat.le_of_ble_eq_true rfl) rfl hf (fun hs => wX12_takes (by omega) (by omega) hs) (fun r3 c4 hf => ?_)
    refine mg_istore (lv' := [(0, .ref v0), (2, .int v2), (3, .int s0), (4, .int r3)]) C rfl (Nat.le_of_ble_eq_true rfl) rfl ?_
    refine mg_iload C rfl rfl ?_
    refine mh_if_eq C rfl hf (fun e_36 hf => ?_) (fun e_36 hf => ?_)
    · refine mg_sub (lv' := [(0, .ref v0), (4, .int r3)]) (by simp) ?_
      exact wX12_stepBy_73 C hRm hd hn hk hw hf
    · refine mg_aload_n C rfl rfl ?_
      refine mg_dup C rfl rfl ?_
      refine mh_gI C rfl rfl rfl (by decide) hf (fun x5 hf => ?_)
      refine mg_iconst (v := 1) C rfl (by decide) ?_
      refine mg_iload_n C rfl rfl ?_
      refine mg_ishl C rfl ?_
      refine mg_ior C rfl ?_
      refine mh_pI C rfl rfl rfl (by decide) rfl rfl rfl hf (fun c6 hf => ?_)
      refine mg_aload_n C rfl rfl ?_
      refine mh_gR C rfl rfl rfl (by decide) hf (fun x7 hf => ?_)
      refine mg_iload_n C rfl rfl ?_
      refine mg_aload_n C rfl rfl ?_
      refine mh_gR C rfl rfl rfl (by decide) hf (fun x8 hf => ?_)
      refine mg_iconst (v := 0) C rfl (by decide) ?_
      refine mh_aI C rfl hf (fun x9 hf => ?_)
      refine mh_tI C rfl hf (fun c10 hf => ?_)
      refine mg_aload_n C rfl rfl ?_
      refine mg_aload_n C rfl rfl ?_
      refine mh_gR C rfl rfl rfl (by decide) hf (fun x11 hf => ?_)
      refine mg_iconst (v := 0) C rfl (by decide) ?_
      refine mh_aI C rfl hf (fun x12 hf => ?_)
      refine mh_pI C rfl rfl rfl (by decide) rfl rfl rfl hf (fun c13 hf => ?_)
      refine mg_sub (lv' := [(0, .ref v0), (4, .int r3)]) (by simp) ?_
      exact wX12_stepBy_73 C hRm hd hn hk hw hf
def bX12_stepBy_0 (N : Nat)  (v0 : Nat) (v1 : Int32) (c : mm_C) : mR Unit :=
  cV 12 v0 c (fX12_pick N v0 v1 c) fun r1 c2 => Option.bind (gR c2 v0 12 26) fun x3 => Option.bind (aI c2 x3 (1 : Int32)) fun x4 => if ¬ x4 = (1 : Int32) then (bX12_stepBy_21 N  v0 r1 (0 : Int32) c2) else (bX12_stepBy_21 N  v0 r1 (1 : Int32) c2)
set_option maxRecDepth 100000 in
theorem wX12_stepBy_0 {Z : mm_Z} {X : mm_T} {k w mc ms d n N : Nat} {Q : mm_O → mm_H → Prop} (C : mm_Ok Z qX12_stepBy X) (hRm : mt_R X = mm_rm d mc ms) (hd : 5 ≤ d) (hn : n + 1 < 1000000) (hk : k + 1 ≤ mc) (hw : w + 6 ≤ ms) {v0 : Nat} {v1 : Int32} {c : mm_C} (hf : hO 0 ovU n (bX12_stepBy_0 N  v0 v1 c) Q) : mG Z qX12_stepBy X k w mc ms Q (0, [(0, .ref v0), (1, .int v1)], [], (n, c)) := by
  unfold bX12_stepBy_0 at hf
  refine mg_aload_n C rfl rfl ?_
  refine mg_iload_n C rfl rfl ?_
  refine mh_cVI (M' := qX12_pick) C rfl rfl aX12_pick iX12_pick sX12_pick hRm (by omega) (by decide) (by omega) (by omega) rfl rfl rfl (Nat.le_of_ble_eq_true rfl) rfl hf (fun hs => wX12_pick (by omega) (by omega) hs) (fun r1 c2 hf => ?_)
  refine mg_istore_n (lv' := [(0, .ref v0), (1, .int v1), (2, .int r1)]) C rfl (Nat.le_of_ble_eq_true rfl) rfl ?_
  refine mg_aload_n C rfl rfl ?_
  refine mh_gR C rfl rfl rfl (by decide) hf (fun x3 hf => ?_)
  refine mg_iconst (v := 1) C rfl (by decide) ?_
  refine mh_aI C rfl hf (fun x4 hf => ?_)
  refine mg_iconst (v := 1) C rfl (by decide) ?_
  refine mh_icmp_ne C rfl hf (fun e_13 hf => ?_) (fun e_13 hf => ?_)
  · refine mg_iconst (v := 0) C rfl (by decide) ?_
    refine mg_sub (lv' := [(0, .ref v0), (2, .int r1)]) (by simp) ?_
    exact wX12_stepBy_21 C hRm hd hn hk hw hf
  · refine mg_iconst (v := 1) C rfl (by decide) ?_
    refine mg_goto C rfl ?_
    refine mg_sub (lv' := [(0, .ref v0), (2, .int r1)]) (by simp) ?_
    exact wX12_stepBy_21 C hRm hd hn hk hw hf
def fX12_stepBy (N : Nat) (v0 : Nat) (v1 : Int32) (c : mm_C) : mR Unit := bX12_stepBy_0 N v0 v1 c
set_option maxRecDepth 100000 in
theorem wX12_stepBy {Z : mm_Z} {d n N : Nat} (hd : 5 ≤ d) (hn : n + 1 < 1000000) {v0 : Nat} {v1 : Int32} {c : mm_C} (hs : (fX12_stepBy N v0 v1 c).isSome = true) : mC Z qX12_stepBy d 1 6 [.ref v0, .int v1] (n, c) (mP 0 ovU n (fX12_stepBy N v0 v1 c)) := by
  refine mC_of gX12_stepBy (by decide +kernel) (Nat.le_of_ble_eq_true rfl) fun X C hRm => ?_
  have hf := hO_mP 0 ovU n hs
  have hk : 0 + 1 ≤ 1 := Nat.le_of_ble_eq_true rfl
  have hw : 0 + 6 ≤ 6 := Nat.le_of_ble_eq_true rfl
  show mG _ _ _ _ _ _ _ _ (0, [(0, .ref v0), (1, .int v1)], [], (n, c))
  exact wX12_stepBy_0 C hRm hd hn hk hw hf
def bX12_dayBy_134 (N : Nat)  (k134 : Nat → Int32 → mm_C → mR Unit) (v0 : Nat) (v2 : Int32) (c : mm_C) : mR Unit :=
  if (15 : Int32) ≤ v2 then (some (.inl (), c)) else (Option.bind (gR c v0 12 26) fun x1 => Option.bind (gR c v0 12 33) fun x2 => Option.bind (aI c x2 v2) fun x3 => Option.bind (tI c x1 v2 x3) fun c4 => k134 v0 (v2 + 1) c4)
set_option maxRecDepth 100000 in
theorem wX12_dayBy_134 {Z : mm_Z} {X : mm_T} {k w mc ms d n N : Nat} {Q : mm_O → mm_H → Prop} (C : mm_Ok Z qX12_dayBy X) (hRm : mt_R X = mm_rm d mc ms) (hd : 6 ≤ d) (hn : n + 1 < 1000000) (hk : k + 1 ≤ mc) (hw : w + 6 ≤ ms) {k134 : Nat → Int32 → mm_C → mR Unit} (hk134 : ∀ (v0 : Nat) (v2 : Int32) (c : mm_C), hO 0 ovU n (k134 v0 v2 c) Q → mG Z qX12_dayBy X k w mc ms Q (134, [(0, .ref v0), (2, .int v2)], [], (n, c))) {v0 : Nat} {v2 : Int32} {c : mm_C} (hf : hO 0 ovU n (bX12_dayBy_134 N  k134 v0 v2 c) Q) : mG Z qX12_dayBy X k w mc ms Q (134, [(0, .ref v0), (2, .int v2)], [], (n, c)) := by
  unfold bX12_dayBy_134 at hf
  refine mg_iload_n C rfl rfl ?_
  refine mg_bipush (v := 15) C rfl (by decide) ?_
  refine mh_icmp_ge C rfl hf (fun e_137 hf => ?_) (fun e_137 hf => ?_)
  · exact mh_return C rfl (by omega) (by omega) rfl hf
  · refine mg_aload_n C rfl rfl ?_
    refine mh_gR C rfl rfl rfl (by decide) hf (fun x1 hf => ?_)
    refine mg_iload_n C rfl rfl ?_
    refine mg_aload_n C rfl rfl ?_
    refine mh_gR C rfl rfl rfl (by decide) hf (fun x2 hf => ?_)
    refine mg_iload_n C rfl rfl ?_
    refine mh_aI C rfl hf (fun x3 hf => ?_)
    refine mh_tI C rfl hf (fun c4 hf => ?_)
    refine mg_iinc (lv' := [(0, .ref v0), (2, .int (v2 + 1))]) C rfl (Nat.le_of_ble_eq_true rfl) rfl (show _ + Int32.ofInt 1 = _ + 1 by congr 1) rfl ?_
    refine mg_goto C rfl ?_
    exact hk134 _ _ _ hf
def lX12_dayBy_134 (N : Nat)  : Nat → Nat → Int32 → mm_C → mR Unit
  | 0, _, _, _ => none
  | m + 1, v0, v2, c => bX12_dayBy_134 N  (lX12_dayBy_134 N  m) v0 v2 c
theorem WX12_dayBy_134 {Z : mm_Z} {X : mm_T} {k w mc ms d n N : Nat} {Q : mm_O → mm_H → Prop} (C : mm_Ok Z qX12_dayBy X) (hRm : mt_R X = mm_rm d mc ms) (hd : 6 ≤ d) (hn : n + 1 < 1000000) (hk : k + 1 ≤ mc) (hw : w + 6 ≤ ms) : ∀ (m : Nat) {v0 : Nat} {v2 : Int32} {c : mm_C} (hf : hO 0 ovU n (lX12_dayBy_134 N  m v0 v2 c) Q), mG Z qX12_dayBy X k w mc ms Q (134, [(0, .ref v0), (2, .int v2)], [], (n, c)) := by
  intro m
  induction m with
  | zero => intro v0 v2 c hf; exact absurd hf hO_none
  | succ m ih => intro v0 v2 c hf; exact wX12_dayBy_134 C hRm hd hn hk hw (fun v0 v2 c hf => ih hf) hf
def bX12_dayBy_115 (N : Nat)  (v0 : Nat) (c : mm_C) : mR Unit :=
  Option.bind (gR c v0 12 26) fun x1 => Option.bind (aI c x1 (4 : Int32)) fun x2 => Option.bind (gR c v0 12 33) fun x3 => Option.bind (aI c x3 (4 : Int32)) fun x4 => Option.bind (pI c v0 12 36 (x2 - x4)) fun c5 => lX12_dayBy_134 N  N v0 (0 : Int32) c5
set_option maxRecDepth 100000 in
theorem wX12_dayBy_115 {Z : mm_Z} {X : mm_T} {k w mc ms d n N : Nat} {Q : mm_O → mm_H → Prop} (C : mm_Ok Z qX12_dayBy X) (hRm : mt_R X = mm_rm d mc ms) (hd : 6 ≤ d) (hn : n + 1 < 1000000) (hk : k + 1 ≤ mc) (hw : w + 6 ≤ ms) {v0 : Nat} {c : mm_C} (hf : hO 0 ovU n (bX12_dayBy_115 N  v0 c) Q) : mG Z qX12_dayBy X k w mc ms Q (115, [(0, .ref v0)], [], (n, c)) := by
  unfold bX12_dayBy_115 at hf
  refine mg_aload_n C rfl rfl ?_
  refine mg_aload_n C rfl rfl ?_
  refine mh_gR C rfl rfl rfl (by decide) hf (fun x1 hf => ?_)
  refine mg_iconst (v := 4) C rfl (by decide) ?_
  refine mh_aI C rfl hf (fun x2 hf => ?_)
  refine mg_aload_n C rfl rfl ?_
  refine mh_gR C rfl rfl rfl (by decide) hf (fun x3 hf => ?_)
  refine mg_iconst (v := 4) C rfl (by decide) ?_
  refine mh_aI C rfl hf (fun x4 hf => ?_)
  refine mg_isub C rfl ?_
  refine mh_pI C rfl rfl rfl (by decide) rfl rfl rfl hf (fun c5 hf => ?_)
  refine mg_iconst (v := 0) C rfl (by decide) ?_
  refine mg_istore_n (lv' := [(0, .ref v0), (2, .int (0 : Int32))]) C rfl (Nat.le_of_ble_eq_true rfl) rfl ?_
  exact WX12_dayBy_134 C hRm hd hn hk hw N hf
def bX12_dayBy_94 (N : Nat)  (k94 : Nat → Int32 → mm_C → mR Unit) (v0 : Nat) (v1 : Int32) (c : mm_C) : mR Unit :=
  Option.bind (gR c v0 12 26) fun x1 => Option.bind (aI c x1 (0 : Int32)) fun x2 => Option.bind (gI c v0 12 30) fun x3 => if x3 ≤ x2 then (bX12_dayBy_115 N  v0 c) else (cV 12 v0 c (fX12_stepBy N v0 v1 c) fun (_ : Unit) c4 => k94 v0 v1 c4)
set_option maxRecDepth 100000 in
theorem wX12_dayBy_94 {Z : mm_Z} {X : mm_T} {k w mc ms d n N : Nat} {Q : mm_O → mm_H → Prop} (C : mm_Ok Z qX12_dayBy X) (hRm : mt_R X = mm_rm d mc ms) (hd : 6 ≤ d) (hn : n + 1 < 1000000) (hk : k + 1 ≤ mc) (hw : w + 6 ≤ ms) {k94 : Nat → Int32 → mm_C → mR Unit} (hk94 : ∀ (v0 : Nat) (v1 : Int32) (c : mm_C), hO 0 ovU n (k94 v0 v1 c) Q → mG Z qX12_dayBy X k w mc ms Q (94, [(0, .ref v0), (1, .int v1)], [], (n, c))) {v0 : Nat} {v1 : Int32} {c : mm_C} (hf : hO 0 ovU n (bX12_dayBy_94 N  k94 v0 v1 c) Q) : mG Z qX12_dayBy X k w mc ms Q (94, [(0, .ref v0), (1, .int v1)], [], (n, c)) := by
  unfold bX12_dayBy_94 at hf
  refine mg_aload_n C rfl rfl ?_
  refine mh_gR C rfl rfl rfl (by decide) hf (fun x1 hf => ?_)
  refine mg_iconst (v := 0) C rfl (by decide) ?_
  refine mh_aI C rfl hf (fun x2 hf => ?_)
  refine mg_aload_n C rfl rfl ?_
  refine mh_gI C rfl rfl rfl (by decide) hf (fun x3 hf => ?_)
  refine mh_icmp_ge C rfl hf (fun e_104 hf => ?_) (fun e_104 hf => ?_)
  · refine mg_sub (lv' := [(0, .ref v0)]) (by simp) ?_
    exact wX12_dayBy_115 C hRm hd hn hk hw hf
  · refine mg_aload_n C rfl rfl ?_
    refine mg_iload_n C rfl rfl ?_
    refine mh_cVU (M' := qX12_stepBy) C rfl rfl aX12_stepBy iX12_stepBy sX12_stepBy hRm (by omega) (by decide) (by omega) (by omega) rfl rfl rfl (Nat.le_of_ble_eq_true rfl) rfl hf (fun hs => wX12_stepBy (by omega) (by omega) hs) (fun c4 hf => ?_)
    refine mg_goto C rfl ?_
    exact hk94 _ _ _ hf
def lX12_dayBy_94 (N : Nat)  : Nat → Nat → Int32 → mm_C → mR Unit
  | 0, _, _, _ => none
  | m + 1, v0, v1, c => bX12_dayBy_94 N  (lX12_dayBy_94 N  m) v0 v1 c
theorem WX12_dayBy_94 {Z : mm_Z} {X : mm_T} {k w mc ms d n N : Nat} {Q : mm_O → mm_H → Prop} (C : mm_Ok Z qX12_dayBy X) (hRm : mt_R X = mm_rm d mc ms) (hd : 6 ≤ d) (hn : n + 1 < 1000000) (hk : k + 1 ≤ mc) (hw : w + 6 ≤ ms) : ∀ (m : Nat) {v0 : Nat} {v1 : Int32} {c : mm_C} (hf : hO 0 ovU n (lX12_dayBy_94 N  m v0 v1 c) Q), mG Z qX12_dayBy X k w mc ms Q (94, [(0, .ref v0), (1, .int v1)], [], (n, c)) := by
  intro m
  induction m with
  | zero => intro v0 v1 c hf; exact absurd hf hO_none
  | succ m ih => intro v0 v1 c hf; exact wX12_dayBy_94 C hRm hd hn hk hw (fun v0 v1 c hf => ih hf) hf
def bX12_dayBy_87 (N : Nat)  (k57 : Nat → Int32 → Int32 → mm_C → mR Unit) (v0 : Nat) (v1 : Int32) (v2 : Int32) (s0 : Nat) (s1 : Int32) (s2 : Int32) (c : mm_C) : mR Unit :=
  Option.bind (tI c s0 s1 s2) fun c1 => k57 v0 v1 (v2 + 1) c1
set_option maxRecDepth 100000 in
theorem wX12_dayBy_87 {Z : mm_Z} {X : mm_T} {k w mc ms d n N : Nat} {Q : mm_O → mm_H → Prop} (C : mm_Ok Z qX12_dayBy X) (hRm : mt_R X = mm_rm d mc ms) (hd : 6 ≤ d) (hn : n + 1 < 1000000) (hk : k + 1 ≤ mc) (hw : w + 6 ≤ ms) {k57 : Nat → Int32 → Int32 → mm_C → mR Unit} (hk57 : ∀ (v0 : Nat) (v1 : Int32) (v2 : Int32) (c : mm_C), hO 0 ovU n (k57 v0 v1 v2 c) Q → mG Z qX12_dayBy X k w mc ms Q (57, [(0, .ref v0), (1, .int v1), (2, .int v2)], [], (n, c))) {v0 : Nat} {v1 : Int32} {v2 : Int32} {s0 : Nat} {s1 : Int32} {s2 : Int32} {c : mm_C} (hf : hO 0 ovU n (bX12_dayBy_87 N  k57 v0 v1 v2 s0 s1 s2 c) Q) : mG Z qX12_dayBy X k w mc ms Q (87, [(0, .ref v0), (1, .int v1), (2, .int v2)], [.int s2, .int s1, .ref s0], (n, c)) := by
  unfold bX12_dayBy_87 at hf
  refine mh_tI C rfl hf (fun c1 hf => ?_)
  refine mg_iinc (lv' := [(0, .ref v0), (1, .int v1), (2, .int (v2 + 1))]) C rfl (Nat.le_of_ble_eq_true rfl) rfl (show _ + Int32.ofInt 1 = _ + 1 by congr 1) rfl ?_
  refine mg_goto C rfl ?_
  exact hk57 _ _ _ _ hf
def bX12_dayBy_57 (N : Nat)  (k57 : Nat → Int32 → Int32 → mm_C → mR Unit) (v0 : Nat) (v1 : Int32) (v2 : Int32) (c : mm_C) : mR Unit :=
  if (8 : Int32) ≤ v2 then (lX12_dayBy_94 N  N v0 v1 c) else (Option.bind (gR c v0 12 34) fun x1 => Option.bind (gR c v0 12 26) fun x2 => Option.bind (aI c x2 (2 : Int32)) fun x3 => cS (fX12_isOf N x3 v2 c) fun r4 c5 => if r4 = 0 then (bX12_dayBy_87 N  k57 v0 v1 v2 x1 v2 (100000 : Int32) c5) else (bX12_dayBy_87 N  k57 v0 v1 v2 x1 v2 (0 : Int32) c5))
set_option maxRecDepth 100000 in
theorem wX12_dayBy_57 {Z : mm_Z} {X : mm_T} {k w mc ms d n N : Nat} {Q : mm_O → mm_H → Prop} (C : mm_Ok Z qX12_dayBy X) (hRm : mt_R X = mm_rm d mc ms) (hd : 6 ≤ d) (hn : n + 1 < 1000000) (hk : k + 1 ≤ mc) (hw : w + 6 ≤ ms) {k57 : Nat → Int32 → Int32 → mm_C → mR Unit} (hk57 : ∀ (v0 : Nat) (v1 : Int32) (v2 : Int32) (c : mm_C), hO 0 ovU n (k57 v0 v1 v2 c) Q → mG Z qX12_dayBy X k w mc ms Q (57, [(0, .ref v0), (1, .int v1), (2, .int v2)], [], (n, c))) {v0 : Nat} {v1 : Int32} {v2 : Int32} {c : mm_C} (hf : hO 0 ovU n (bX12_dayBy_57 N  k57 v0 v1 v2 c) Q) : mG Z qX12_dayBy X k w mc ms Q (57, [(0, .ref v0), (1, .int v1), (2, .int v2)], [], (n, c)) := by
  unfold bX12_dayBy_57 at hf
  refine mg_iload_n C rfl rfl ?_
  refine mg_bipush (v := 8) C rfl (by decide) ?_
  refine mh_icmp_ge C rfl hf (fun e_60 hf => ?_) (fun e_60 hf => ?_)
  · refine mg_sub (lv' := [(0, .ref v0), (1, .int v1)]) (by simp) ?_
    exact WX12_dayBy_94 C hRm hd hn hk hw N hf
  · refine mg_aload_n C rfl rfl ?_
    refine mh_gR C rfl rfl rfl (by decide) hf (fun x1 hf => ?_)
    refine mg_iload_n C rfl rfl ?_
    refine mg_aload_n C rfl rfl ?_
    refine mh_gR C rfl rfl rfl (by decide) hf (fun x2 hf => ?_)
    refine mg_iconst (v := 2) C rfl (by decide) ?_
    refine mh_aI C rfl hf (fun x3 hf => ?_)
    refine mg_iload_n C rfl rfl ?_
    refine mh_cSI (M' := qX12_isOf) C rfl rfl aX12_isOf tX12_isOf hRm (by omega) (by decide) (by omega) (by omega) rfl rfl (Nat.le_of_ble_eq_true rfl) rfl hf (fun hs => wX12_isOf (by omega) (by omega) hs) (fun r4 c5 hf => ?_)
    refine mh_if_eq C rfl hf (fun e_78 hf => ?_) (fun e_78 hf => ?_)
    · refine mg_ldc C rfl rfl ?_
      exact wX12_dayBy_87 C hRm hd hn hk hw hk57 hf
    · refine mg_iconst (v := 0) C rfl (by decide) ?_
      refine mg_goto C rfl ?_
      exact wX12_dayBy_87 C hRm hd hn hk hw hk57 hf
def lX12_dayBy_57 (N : Nat)  : Nat → Nat → Int32 → Int32 → mm_C → mR Unit
  | 0, _, _, _, _ => none
  | m + 1, v0, v1, v2, c => bX12_dayBy_57 N  (lX12_dayBy_57 N  m) v0 v1 v2 c
theorem WX12_dayBy_57 {Z : mm_Z} {X : mm_T} {k w mc ms d n N : Nat} {Q : mm_O → mm_H → Prop} (C : mm_Ok Z qX12_dayBy X) (hRm : mt_R X = mm_rm d mc ms) (hd : 6 ≤ d) (hn : n + 1 < 1000000) (hk : k + 1 ≤ mc) (hw : w + 6 ≤ ms) : ∀ (m : Nat) {v0 : Nat} {v1 : Int32} {v2 : Int32} {c : mm_C} (hf : hO 0 ovU n (lX12_dayBy_57 N  m v0 v1 v2 c) Q), mG Z qX12_dayBy X k w mc ms Q (57, [(0, .ref v0), (1, .int v1), (2, .int v2)], [], (n, c)) := by
  intro m
  induction m with
  | zero => intro v0 v1 v2 c hf; exact absurd hf hO_none
  | succ m ih => intro v0 v1 v2 c hf; exact wX12_dayBy_57 C hRm hd hn hk hw (fun v0 v1 v2 c hf => ih hf) hf
def bX12_dayBy_30 (N : Nat)  (v0 : Nat) (v1 : Int32) (c : mm_C) : mR Unit :=
  Option.bind (pI c v0 12 35 (0 : Int32)) fun c1 => Option.bind (pI c1 v0 12 37 (0 : Int32)) fun c2 => Option.bind (pI c2 v0 12 38 (-1 : Int32)) fun c3 => Option.bind (pI c3 v0 12 39 (0 : Int32)) fun c4 => Option.bind (pI c4 v0 12 40 (0 : Int32)) fun c5 => lX12_dayBy_57 N  N v0 v1 (0 : Int32) c5
set_option maxRecDepth 100000 in
theorem wX12_dayBy_30 {Z : mm_Z} {X : mm_T} {k w mc ms d n N : Nat} {Q : mm_O → mm_H → Prop} (C : mm_Ok Z qX12_dayBy X) (hRm : mt_R X = mm_rm d mc ms) (hd : 6 ≤ d) (hn : n + 1 < 1000000) (hk : k + 1 ≤ mc) (hw : w + 6 ≤ ms) {v0 : Nat} {v1 : Int32} {c : mm_C} (hf : hO 0 ovU n (bX12_dayBy_30 N  v0 v1 c) Q) : mG Z qX12_dayBy X k w mc ms Q (30, [(0, .ref v0), (1, .int v1)], [], (n, c)) := by
  unfold bX12_dayBy_30 at hf
  refine mg_aload_n C rfl rfl ?_
  refine mg_iconst (v := 0) C rfl (by decide) ?_
  refine mh_pI C rfl rfl rfl (by decide) rfl rfl rfl hf (fun c1 hf => ?_)
  refine mg_aload_n C rfl rfl ?_
  refine mg_iconst (v := 0) C rfl (by decide) ?_
  refine mh_pI C rfl rfl rfl (by decide) rfl rfl rfl hf (fun c2 hf => ?_)
  refine mg_aload_n C rfl rfl ?_
  refine mg_iconst (v := (-1)) C rfl (by decide) ?_
  refine mh_pI C rfl rfl rfl (by decide) rfl rfl rfl hf (fun c3 hf => ?_)
  refine mg_aload_n C rfl rfl ?_
  refine mg_iconst (v := 0) C rfl (by decide) ?_
  refine mh_pI C rfl rfl rfl (by decide) rfl rfl rfl hf (fun c4 hf => ?_)
  refine mg_aload_n C rfl rfl ?_
  refine mg_iconst (v := 0) C rfl (by decide) ?_
  refine mh_pI C rfl rfl rfl (by decide) rfl rfl rfl hf (fun c5 hf => ?_)
  refine mg_iconst (v := 0) C rfl (by decide) ?_
  refine mg_istore_n (lv' := [(0, .ref v0), (1, .int v1), (2, .int (0 : Int32))]) C rfl (Nat.le_of_ble_eq_true rfl) rfl ?_
  exact WX12_dayBy_57 C hRm hd hn hk hw N hf
def bX12_dayBy_6 (N : Nat)  (k6 : Nat → Int32 → Int32 → mm_C → mR Unit) (v0 : Nat) (v1 : Int32) (v2 : Int32) (c : mm_C) : mR Unit :=
  if (15 : Int32) ≤ v2 then (bX12_dayBy_30 N  v0 v1 c) else (Option.bind (gR c v0 12 33) fun x1 => Option.bind (gR c v0 12 26) fun x2 => Option.bind (aI c x2 v2) fun x3 => Option.bind (tI c x1 v2 x3) fun c4 => k6 v0 v1 (v2 + 1) c4)
set_option maxRecDepth 100000 in
theorem wX12_dayBy_6 {Z : mm_Z} {X : mm_T} {k w mc ms d n N : Nat} {Q : mm_O → mm_H → Prop} (C : mm_Ok Z qX12_dayBy X) (hRm : mt_R X = mm_rm d mc ms) (hd : 6 ≤ d) (hn : n + 1 < 1000000) (hk : k + 1 ≤ mc) (hw : w + 6 ≤ ms) {k6 : Nat → Int32 → Int32 → mm_C → mR Unit} (hk6 : ∀ (v0 : Nat) (v1 : Int32) (v2 : Int32) (c : mm_C), hO 0 ovU n (k6 v0 v1 v2 c) Q → mG Z qX12_dayBy X k w mc ms Q (6, [(0, .ref v0), (1, .int v1), (2, .int v2)], [], (n, c))) {v0 : Nat} {v1 : Int32} {v2 : Int32} {c : mm_C} (hf : hO 0 ovU n (bX12_dayBy_6 N  k6 v0 v1 v2 c) Q) : mG Z qX12_dayBy X k w mc ms Q (6, [(0, .ref v0), (1, .int v1), (2, .int v2)], [], (n, c)) := by
  unfold bX12_dayBy_6 at hf
  refine mg_iload_n C rfl rfl ?_
  refine mg_bipush (v := 15) C rfl (by decide) ?_
  refine mh_icmp_ge C rfl hf (fun e_9 hf => ?_) (fun e_9 hf => ?_)
  · refine mg_sub (lv' := [(0, .ref v0), (1, .int v1)]) (by simp) ?_
    exact wX12_dayBy_30 C hRm hd hn hk hw hf
  · refine mg_aload_n C rfl rfl ?_
    refine mh_gR C rfl rfl rfl (by decide) hf (fun x1 hf => ?_)
    refine mg_iload_n C rfl rfl ?_
    refine mg_aload_n C rfl rfl ?_
    refine mh_gR C rfl rfl rfl (by decide) hf (fun x2 hf => ?_)
    refine mg_iload_n C rfl rfl ?_
    refine mh_aI C rfl hf (fun x3 hf => ?_)
    refine mh_tI C rfl hf (fun c4 hf => ?_)
    refine mg_iinc (lv' := [(0, .ref v0), (1, .int v1), (2, .int (v2 + 1))]) C rfl (Nat.le_of_ble_eq_true rfl) rfl (show _ + Int32.ofInt 1 = _ + 1 by congr 1) rfl ?_
    refine mg_goto C rfl ?_
    exact hk6 _ _ _ _ hf
def lX12_dayBy_6 (N : Nat)  : Nat → Nat → Int32 → Int32 → mm_C → mR Unit
  | 0, _, _, _, _ => none
  | m + 1, v0, v1, v2, c => bX12_dayBy_6 N  (lX12_dayBy_6 N  m) v0 v1 v2 c
theorem WX12_dayBy_6 {Z : mm_Z} {X : mm_T} {k w mc ms d n N : Nat} {Q : mm_O → mm_H → Prop} (C : mm_Ok Z qX12_dayBy X) (hRm : mt_R X = mm_rm d mc ms) (hd : 6 ≤ d) (hn : n + 1 < 1000000) (hk : k + 1 ≤ mc) (hw : w + 6 ≤ ms) : ∀ (m : Nat) {v0 : Nat} {v1 : Int32} {v2 : Int32} {c : mm_C} (hf : hO 0 ovU n (lX12_dayBy_6 N  m v0 v1 v2 c) Q), mG Z qX12_dayBy X k w mc ms Q (6, [(0, .ref v0), (1, .int v1), (2, .int v2)], [], (n, c)) := by
  intro m
  induction m with
  | zero => intro v0 v1 v2 c hf; exact absurd hf hO_none
  | succ m ih => intro v0 v1 v2 c hf; exact wX12_dayBy_6 C hRm hd hn hk hw (fun v0 v1 v2 c hf => ih hf) hf
def bX12_dayBy_0 (N : Nat)  (v0 : Nat) (v1 : Int32) (c : mm_C) : mR Unit :=
  cV 12 v0 c (fX12_set N v0 c) fun (_ : Unit) c1 => lX12_dayBy_6 N  N v0 v1 (0 : Int32) c1
set_option maxRecDepth 100000 in
theorem wX12_dayBy_0 {Z : mm_Z} {X : mm_T} {k w mc ms d n N : Nat} {Q : mm_O → mm_H → Prop} (C : mm_Ok Z qX12_dayBy X) (hRm : mt_R X = mm_rm d mc ms) (hd : 6 ≤ d) (hn : n + 1 < 1000000) (hk : k + 1 ≤ mc) (hw : w + 6 ≤ ms) {v0 : Nat} {v1 : Int32} {c : mm_C} (hf : hO 0 ovU n (bX12_dayBy_0 N  v0 v1 c) Q) : mG Z qX12_dayBy X k w mc ms Q (0, [(0, .ref v0), (1, .int v1)], [], (n, c)) := by
  unfold bX12_dayBy_0 at hf
  refine mg_aload_n C rfl rfl ?_
  refine mh_cVU (M' := qX12_set) C rfl rfl aX12_set iX12_set sX12_set hRm (by omega) (by decide) (by omega) (by omega) rfl rfl rfl (Nat.le_of_ble_eq_true rfl) rfl hf (fun hs => wX12_set (by omega) (by omega) hs) (fun c1 hf => ?_)
  refine mg_iconst (v := 0) C rfl (by decide) ?_
  refine mg_istore_n (lv' := [(0, .ref v0), (1, .int v1), (2, .int (0 : Int32))]) C rfl (Nat.le_of_ble_eq_true rfl) rfl ?_
  exact WX12_dayBy_6 C hRm hd hn hk hw N hf
def fX12_dayBy (N : Nat) (v0 : Nat) (v1 : Int32) (c : mm_C) : mR Unit := bX12_dayBy_0 N v0 v1 c
set_option maxRecDepth 100000 in
theorem wX12_dayBy {Z : mm_Z} {d n N : Nat} (hd : 6 ≤ d) (hn : n + 1 < 1000000) {v0 : Nat} {v1 : Int32} {c : mm_C} (hs : (fX12_dayBy N v0 v1 c).isSome = true) : mC Z qX12_dayBy d 1 6 [.ref v0, .int v1] (n, c) (mP 0 ovU n (fX12_dayBy N v0 v1 c)) := by
  refine mC_of gX12_dayBy (by decide +kernel) (Nat.le_of_ble_eq_true rfl) fun X C hRm => ?_
  have hf := hO_mP 0 ovU n hs
  have hk : 0 + 1 ≤ 1 := Nat.le_of_ble_eq_true rfl
  have hw : 0 + 6 ≤ 6 := Nat.le_of_ble_eq_true rfl
  show mG _ _ _ _ _ _ _ _ (0, [(0, .ref v0), (1, .int v1)], [], (n, c))
  exact wX12_dayBy_0 C hRm hd hn hk hw hf
def bX12_bitsOf_20 (N : Nat)  (v1 : Int32) (c : mm_C) : mR Int32 :=
  some (.inl v1, c)
set_option maxRecDepth 100000 in
theorem wX12_bitsOf_20 {Z : mm_Z} {X : mm_T} {k w mc ms d n N : Nat} {Q : mm_O → mm_H → Prop} (C : mm_Ok Z qX12_bitsOf X) (hRm : mt_R X = mm_rm d mc ms) (hd : 1 ≤ d) (hn : n + 1 < 1000000) (hk : k + 1 ≤ mc) (hw : w + 6 ≤ ms) {v1 : Int32} {c : mm_C} (hf : hO 0 ovI n (bX12_bitsOf_20 N  v1 c) Q) : mG Z qX12_bitsOf X k w mc ms Q (20, [(1, .int v1)], [], (n, c)) := by
  unfold bX12_bitsOf_20 at hf
  refine mg_iload_n C rfl rfl ?_
  exact mh_ireturn C rfl (by omega) (by omega) rfl hf
def bX12_bitsOf_4 (N : Nat)  (k4 : Int32 → Int32 → mm_C → mR Int32) (v1 : Int32) (v2 : Int32) (c : mm_C) : mR Int32 :=
  if v2 = 0 then (bX12_bitsOf_20 N  v1 c) else (k4 (v1 + 1) (v2 &&& (v2 - (1 : Int32))) c)
set_option maxRecDepth 100000 in
theorem wX12_bitsOf_4 {Z : mm_Z} {X : mm_T} {k w mc ms d n N : Nat} {Q : mm_O → mm_H → Prop} (C : mm_Ok Z qX12_bitsOf X) (hRm : mt_R X = mm_rm d mc ms) (hd : 1 ≤ d) (hn : n + 1 < 1000000) (hk : k + 1 ≤ mc) (hw : w + 6 ≤ ms) {k4 : Int32 → Int32 → mm_C → mR Int32} (hk4 : ∀ (v1 : Int32) (v2 : Int32) (c : mm_C), hO 0 ovI n (k4 v1 v2 c) Q → mG Z qX12_bitsOf X k w mc ms Q (4, [(1, .int v1), (2, .int v2)], [], (n, c))) {v1 : Int32} {v2 : Int32} {c : mm_C} (hf : hO 0 ovI n (bX12_bitsOf_4 N  k4 v1 v2 c) Q) : mG Z qX12_bitsOf X k w mc ms Q (4, [(1, .int v1), (2, .int v2)], [], (n, c)) := by
  unfold bX12_bitsOf_4 at hf
  refine mg_iload_n C rfl rfl ?_
  refine mh_if_eq C rfl hf (fun e_5 hf => ?_) (fun e_5 hf => ?_)
  · refine mg_sub (lv' := [(1, .int v1)]) (by simp) ?_
    exact wX12_bitsOf_20 C hRm hd hn hk hw hf
  · refine mg_iinc (lv' := [(1, .int (v1 + 1)), (2, .int v2)]) C rfl (Nat.le_of_ble_eq_true rfl) rfl (show _ + Int32.ofInt 1 = _ + 1 by congr 1) rfl ?_
    refine mg_iload_n C rfl rfl ?_
    refine mg_iload_n C rfl rfl ?_
    refine mg_iconst (v := 1) C rfl (by decide) ?_
    refine mg_isub C rfl ?_
    refine mg_iand C rfl ?_
    refine mg_istore_n (lv' := [(1, .int (v1 + 1)), (2, .int (v2 &&& (v2 - (1 : Int32))))]) C rfl (Nat.le_of_ble_eq_true rfl) rfl ?_
    refine mg_goto C rfl ?_
    exact hk4 _ _ _ hf
def lX12_bitsOf_4 (N : Nat)  : Nat → Int32 → Int32 → mm_C → mR Int32
  | 0, _, _, _ => none
  | m + 1, v1, v2, c => bX12_bitsOf_4 N  (lX12_bitsOf_4 N  m) v1 v2 c
theorem WX12_bitsOf_4 {Z : mm_Z} {X : mm_T} {k w mc ms d n N : Nat} {Q : mm_O → mm_H → Prop} (C : mm_Ok Z qX12_bitsOf X) (hRm : mt_R X = mm_rm d mc ms) (hd : 1 ≤ d) (hn : n + 1 < 1000000) (hk : k + 1 ≤ mc) (hw : w + 6 ≤ ms) : ∀ (m : Nat) {v1 : Int32} {v2 : Int32} {c : mm_C} (hf : hO 0 ovI n (lX12_bitsOf_4 N  m v1 v2 c) Q), mG Z qX12_bitsOf X k w mc ms Q (4, [(1, .int v1), (2, .int v2)], [], (n, c)) := by
  intro m
  induction m with
  | zero => intro v1 v2 c hf; exact absurd hf hO_none
  | succ m ih => intro v1 v2 c hf; exact wX12_bitsOf_4 C hRm hd hn hk hw (fun v1 v2 c hf => ih hf) hf
def bX12_bitsOf_0 (N : Nat)  (v0 : Int32) (c : mm_C) : mR Int32 :=
  lX12_bitsOf_4 N  N (0 : Int32) v0 c
set_option maxRecDepth 100000 in
theorem wX12_bitsOf_0 {Z : mm_Z} {X : mm_T} {k w mc ms d n N : Nat} {Q : mm_O → mm_H → Prop} (C : mm_Ok Z qX12_bitsOf X) (hRm : mt_R X = mm_rm d mc ms) (hd : 1 ≤ d) (hn : n + 1 < 1000000) (hk : k + 1 ≤ mc) (hw : w + 6 ≤ ms) {v0 : Int32} {c : mm_C} (hf : hO 0 ovI n (bX12_bitsOf_0 N  v0 c) Q) : mG Z qX12_bitsOf X k w mc ms Q (0, [(0, .int v0)], [], (n, c)) := by
  unfold bX12_bitsOf_0 at hf
  refine mg_iconst (v := 0) C rfl (by decide) ?_
  refine mg_istore_n (lv' := [(0, .int v0), (1, .int (0 : Int32))]) C rfl (Nat.le_of_ble_eq_true rfl) rfl ?_
  refine mg_iload_n C rfl rfl ?_
  refine mg_istore_n (lv' := [(0, .int v0), (1, .int (0 : Int32)), (2, .int v0)]) C rfl (Nat.le_of_ble_eq_true rfl) rfl ?_
  refine mg_sub (lv' := [(1, .int (0 : Int32)), (2, .int v0)]) (by simp) ?_
  exact WX12_bitsOf_4 C hRm hd hn hk hw N hf
def fX12_bitsOf (N : Nat) (v0 : Int32) (c : mm_C) : mR Int32 := bX12_bitsOf_0 N v0 c
set_option maxRecDepth 100000 in
theorem wX12_bitsOf {Z : mm_Z} {d n N : Nat} (hd : 1 ≤ d) (hn : n + 1 < 1000000) {v0 : Int32} {c : mm_C} (hs : (fX12_bitsOf N v0 c).isSome = true) : mC Z qX12_bitsOf d 1 6 [.int v0] (n, c) (mP 0 ovI n (fX12_bitsOf N v0 c)) := by
  refine mC_of gX12_bitsOf (by decide +kernel) (Nat.le_of_ble_eq_true rfl) fun X C hRm => ?_
  have hf := hO_mP 0 ovI n hs
  have hk : 0 + 1 ≤ 1 := Nat.le_of_ble_eq_true rfl
  have hw : 0 + 6 ≤ 6 := Nat.le_of_ble_eq_true rfl
  show mG _ _ _ _ _ _ _ _ (0, [(0, .int v0)], [], (n, c))
  exact wX12_bitsOf_0 C hRm hd hn hk hw hf
def bX12_day_25 (N : Nat)  (v0 : Nat) (c : mm_C) : mR Int32 :=
  cV 12 v0 c (fX12_fail N v0 (1 : Int32) c) fun r1 c2 => some (.inl r1, c2)
set_option maxRecDepth 100000 in
theorem wX12_day_25 {Z : mm_Z} {X : mm_T} {k w mc ms d n N : Nat} {Q : mm_O → mm_H → Prop} (C : mm_Ok Z qX12_day X) (hRm : mt_R X = mm_rm d mc ms) (hd : 7 ≤ d) (hn : n + 1 < 1000000) (hk : k + 1 ≤ mc) (hw : w + 6 ≤ ms) {v0 : Nat} {c : mm_C} (hf : hO 0 ovI n (bX12_day_25 N  v0 c) Q) : mG Z qX12_day X k w mc ms Q (25, [(0, .ref v0)], [], (n, c)) := by
  unfold bX12_day_25 at hf
  refine mg_aload_n C rfl rfl ?_
  refine mg_iconst (v := 1) C rfl (by decide) ?_
  refine mh_cVI (M' := qX12_fail) C rfl rfl aX12_fail iX12_fail sX12_fail hRm (by omega) (by decide) (by omega) (by omega) rfl rfl rfl (Nat.le_of_ble_eq_true rfl) rfl hf (fun hs => wX12_fail (by omega) (by omega) hs) (fun r1 c2 hf => ?_)
  exact mh_ireturn C rfl (by omega) (by omega) rfl hf
def bX12_day_0 (N : Nat)  (v0 : Nat) (v1 : Int32) (v2 : Int32) (c : mm_C) : mR Int32 :=
  Option.bind (pI c v0 12 2 (0 : Int32)) fun c1 => cV 12 v0 c1 (fX12_isRule N v0 v1 c1) fun r2 c3 => if r2 = 0 then (bX12_day_25 N  v0 c3) else (cS (fX12_isIn N v2.toInt64 (0 : Int64) (4 : Int64) c3) fun r4 c5 => if ¬ r4 = 0 then (cV 12 v0 c5 (fX12_dayBy N v0 v1 c5) fun (_ : Unit) c6 => if ¬ v2 = 0 then (if ¬ v2 = (1 : Int32) then (if ¬ v2 = (2 : Int32) then (if ¬ v2 = (3 : Int32) then (Option.bind (gI c6 v0 12 35) fun x7 => some (.inl x7, c6)) else (Option.bind (gI c6 v0 12 38) fun x8 => some (.inl x8, c6))) else (Option.bind (gI c6 v0 12 37) fun x9 => some (.inl x9, c6))) else (Option.bind (gI c6 v0 12 36) fun x10 => some (.inl x10, c6))) else (Option.bind (gI c6 v0 12 35) fun x11 => cS (fX12_bitsOf N x11 c6) fun r12 c13 => some (.inl r12, c13))) else (bX12_day_25 N  v0 c5))
set_option maxRecDepth 100000 in
theorem wX12_day_0 {Z : mm_Z} {X : mm_T} {k w mc ms d n N : Nat} {Q : mm_O → mm_H → Prop} (C : mm_Ok Z qX12_day X) (hRm : mt_R X = mm_rm d mc ms) (hd : 7 ≤ d) (hn : n + 1 < 1000000) (hk : k + 1 ≤ mc) (hw : w + 6 ≤ ms) {v0 : Nat} {v1 : Int32} {v2 : Int32} {c : mm_C} (hf : hO 0 ovI n (bX12_day_0 N  v0 v1 v2 c) Q) : mG Z qX12_day X k w mc ms Q (0, [(0, .ref v0), (1, .int v1), (2, .int v2)], [], (n, c)) := by
  unfold bX12_day_0 at hf
  refine mg_aload_n C rfl rfl ?_
  refine mg_iconst (v := 0) C rfl (by decide) ?_
  refine mh_pI C rfl rfl rfl (by decide) rfl rfl rfl hf (fun c1 hf => ?_)
  refine mg_aload_n C rfl rfl ?_
  refine mg_iload_n C rfl rfl ?_
  refine mh_cVI (M' := qX12_isRule) C rfl rfl aX12_isRule iX12_isRule sX12_isRule hRm (by omega) (by decide) (by omega) (by omega) rfl rfl rfl (Nat.le_of_ble_eq_true rfl) rfl hf (fun hs => wX12_isRule (by omega) (by omega) hs) (fun r2 c3 hf => ?_)
  refine mh_if_eq C rfl hf (fun e_10 hf => ?_) (fun e_10 hf => ?_)
  · refine mg_sub (lv' := [(0, .ref v0)]) (by simp) ?_
    exact wX12_day_25 C hRm hd hn hk hw hf
  · refine mg_iload_n C rfl rfl ?_
    refine mg_i2l C rfl ?_
    refine mg_lconst (v := 0) C rfl (by decide) ?_
    refine mg_ldc2_w C rfl rfl ?_
    refine mh_cSI (M' := qX12_isIn) C rfl rfl aX12_isIn tX12_isIn hRm (by omega) (by decide) (by omega) (by omega) rfl rfl (Nat.le_of_ble_eq_true rfl) rfl hf (fun hs => wX12_isIn (by omega) (by omega) hs) (fun r4 c5 hf => ?_)
    refine mh_if_ne C rfl hf (fun e_22 hf => ?_) (fun e_22 hf => ?_)
    · refine mg_aload_n C rfl rfl ?_
      refine mg_iload_n C rfl rfl ?_
      refine mh_cVU (M' := qX12_dayBy) C rfl rfl aX12_dayBy iX12_dayBy sX12_dayBy hRm (by omega) (by decide) (by omega) (by omega) rfl rfl rfl (Nat.le_of_ble_eq_true rfl) rfl hf (fun hs => wX12_dayBy (by omega) (by omega) hs) (fun c6 hf => ?_)
      refine mg_iload_n C rfl rfl ?_
      refine mh_if_ne C rfl hf (fun e_37 hf => ?_) (fun e_37 hf => ?_)
      · refine mg_iload_n C rfl rfl ?_
        refine mg_iconst (v := 1) C rfl (by decide) ?_
        refine mh_icmp_ne C rfl hf (fun e_52 hf => ?_) (fun e_52 hf => ?_)
        · refine mg_iload_n C rfl rfl ?_
          refine mg_iconst (v := 2) C rfl (by decide) ?_
          refine mh_icmp_ne C rfl hf (fun e_64 hf => ?_) (fun e_64 hf => ?_)
          · refine mg_iload_n C rfl rfl ?_
            refine mg_iconst (v := 3) C rfl (by decide) ?_
            refine mh_icmp_ne C rfl hf (fun e_76 hf => ?_) (fun e_76 hf => ?_)
            · refine mg_aload_n C rfl rfl ?_
              refine mh_gI C rfl rfl rfl (by decide) hf (fun x7 hf => ?_)
              exact mh_ireturn C rfl (by omega) (by omega) rfl hf
            · refine mg_aload_n C rfl rfl ?_
              refine mh_gI C rfl rfl rfl (by decide) hf (fun x8 hf => ?_)
              refine mg_goto C rfl ?_
              exact mh_ireturn C rfl (by omega) (by omega) rfl hf
          · refine mg_aload_n C rfl rfl ?_
            refine mh_gI C rfl rfl rfl (by decide) hf (fun x9 hf => ?_)
            refine mg_goto C rfl ?_
            exact mh_ireturn C rfl (by omega) (by omega) rfl hf
        · refine mg_aload_n C rfl rfl ?_
          refine mh_gI C rfl rfl rfl (by decide) hf (fun x10 hf => ?_)
          refine mg_goto C rfl ?_
          exact mh_ireturn C rfl (by omega) (by omega) rfl hf
      · refine mg_aload_n C rfl rfl ?_
        refine mh_gI C rfl rfl rfl (by decide) hf (fun x11 hf => ?_)
        refine mh_cSI (M' := qX12_bitsOf) C rfl rfl aX12_bitsOf tX12_bitsOf hRm (by omega) (by decide) (by omega) (by omega) rfl rfl (Nat.le_of_ble_eq_true rfl) rfl hf (fun hs => wX12_bitsOf (by omega) (by omega) hs) (fun r12 c13 hf => ?_)
        refine mg_goto C rfl ?_
        exact mh_ireturn C rfl (by omega) (by omega) rfl hf
    · refine mg_sub (lv' := [(0, .ref v0)]) (by simp) ?_
      exact wX12_day_25 C hRm hd hn hk hw hf
def fX12_day (N : Nat) (v0 : Nat) (v1 : Int32) (v2 : Int32) (c : mm_C) : mR Int32 := bX12_day_0 N v0 v1 v2 c
set_option maxRecDepth 100000 in
theorem wX12_day {Z : mm_Z} {d n N : Nat} (hd : 7 ≤ d) (hn : n + 1 < 1000000) {v0 : Nat} {v1 : Int32} {v2 : Int32} {c : mm_C} (hs : (fX12_day N v0 v1 v2 c).isSome = true) : mC Z qX12_day d 1 6 [.ref v0, .int v1, .int v2] (n, c) (mP 0 ovI n (fX12_day N v0 v1 v2 c)) := by
  refine mC_of gX12_day (by decide +kernel) (Nat.le_of_ble_eq_true rfl) fun X C hRm => ?_
  have hf := hO_mP 0 ovI n hs
  have hk : 0 + 1 ≤ 1 := Nat.le_of_ble_eq_true rfl
  have hw : 0 + 6 ≤ 6 := Nat.le_of_ble_eq_true rfl
  show mG _ _ _ _ _ _ _ _ (0, [(0, .ref v0), (1, .int v1), (2, .int v2)], [], (n, c))
  exact wX12_day_0 C hRm hd hn hk hw hf
def bX12_bestNow_75 (N : Nat)  (v1 : Int32) (c : mm_C) : mR Int32 :=
  some (.inl v1, c)
set_option maxRecDepth 100000 in
theorem wX12_bestNow_75 {Z : mm_Z} {X : mm_T} {k w mc ms d n N : Nat} {Q : mm_O → mm_H → Prop} (C : mm_Ok Z qX12_bestNow X) (hRm : mt_R X = mm_rm d mc ms) (hd : 7 ≤ d) (hn : n + 1 < 1000000) (hk : k + 1 ≤ mc) (hw : w + 6 ≤ ms) {v1 : Int32} {c : mm_C} (hf : hO 0 ovI n (bX12_bestNow_75 N  v1 c) Q) : mG Z qX12_bestNow X k w mc ms Q (75, [(1, .int v1)], [], (n, c)) := by
  unfold bX12_bestNow_75 at hf
  refine mg_iload_n C rfl rfl ?_
  exact mh_ireturn C rfl (by omega) (by omega) rfl hf
def bX12_bestNow_69 (N : Nat)  (k9 : Nat → Int32 → Int32 → Int32 → Int32 → mm_C → mR Int32) (v0 : Nat) (v1 : Int32) (v2 : Int32) (v3 : Int32) (v4 : Int32) (c : mm_C) : mR Int32 :=
  k9 v0 v1 v2 v3 (v4 + 1) c
set_option maxRecDepth 100000 in
theorem wX12_bestNow_69 {Z : mm_Z} {X : mm_T} {k w mc ms d n N : Nat} {Q : mm_O → mm_H → Prop} (C : mm_Ok Z qX12_bestNow X) (hRm : mt_R X = mm_rm d mc ms) (hd : 7 ≤ d) (hn : n + 1 < 1000000) (hk : k + 1 ≤ mc) (hw : w + 6 ≤ ms) {k9 : Nat → Int32 → Int32 → Int32 → Int32 → mm_C → mR Int32} (hk9 : ∀ (v0 : Nat) (v1 : Int32) (v2 : Int32) (v3 : Int32) (v4 : Int32) (c : mm_C), hO 0 ovI n (k9 v0 v1 v2 v3 v4 c) Q → mG Z qX12_bestNow X k w mc ms Q (9, [(0, .ref v0), (1, .int v1), (2, .int v2), (3, .int v3), (4, .int v4)], [], (n, c))) {v0 : Nat} {v1 : Int32} {v2 : Int32} {v3 : Int32} {v4 : Int32} {c : mm_C} (hf : hO 0 ovI n (bX12_bestNow_69 N  k9 v0 v1 v2 v3 v4 c) Q) : mG Z qX12_bestNow X k w mc ms Q (69, [(0, .ref v0), (1, .int v1), (2, .int v2), (3, .int v3), (4, .int v4)], [], (n, c)) := by
  unfold bX12_bestNow_69 at hf
  refine mg_iinc (lv' := [(0, .ref v0), (1, .int v1), (2, .int v2), (3, .int v3), (4, .int (v4 + 1))]) C rfl (Nat.le_of_ble_eq_true rfl) rfl (show _ + Int32.ofInt 1 = _ + 1 by congr 1) rfl ?_
  refine mg_goto C rfl ?_
  exact hk9 _ _ _ _ _ _ hf
def bX12_bestNow_58 (N : Nat)  (k9 : Nat → Int32 → Int32 → Int32 → Int32 → mm_C → mR Int32) (v0 : Nat) (v4 : Int32) (v5 : Int32) (c : mm_C) : mR Int32 :=
  Option.bind (gI c v0 12 36) fun x1 => bX12_bestNow_69 N  k9 v0 v4 v5 x1 v4 c
set_option maxRecDepth 100000 in
theorem wX12_bestNow_58 {Z : mm_Z} {X : mm_T} {k w mc ms d n N : Nat} {Q : mm_O → mm_H → Prop} (C : mm_Ok Z qX12_bestNow X) (hRm : mt_R X = mm_rm d mc ms) (hd : 7 ≤ d) (hn : n + 1 < 1000000) (hk : k + 1 ≤ mc) (hw : w + 6 ≤ ms) {k9 : Nat → Int32 → Int32 → Int32 → Int32 → mm_C → mR Int32} (hk9 : ∀ (v0 : Nat) (v1 : Int32) (v2 : Int32) (v3 : Int32) (v4 : Int32) (c : mm_C), hO 0 ovI n (k9 v0 v1 v2 v3 v4 c) Q → mG Z qX12_bestNow X k w mc ms Q (9, [(0, .ref v0), (1, .int v1), (2, .int v2), (3, .int v3), (4, .int v4)], [], (n, c))) {v0 : Nat} {v4 : Int32} {v5 : Int32} {c : mm_C} (hf : hO 0 ovI n (bX12_bestNow_58 N  k9 v0 v4 v5 c) Q) : mG Z qX12_bestNow X k w mc ms Q (58, [(0, .ref v0), (4, .int v4), (5, .int v5)], [], (n, c)) := by
  unfold bX12_bestNow_58 at hf
  refine mg_iload C rfl rfl ?_
  refine mg_istore_n (lv' := [(0, .ref v0), (1, .int v4), (4, .int v4), (5, .int v5)]) C rfl (Nat.le_of_ble_eq_true rfl) rfl ?_
  refine mg_iload C rfl rfl ?_
  refine mg_istore_n (lv' := [(0, .ref v0), (1, .int v4), (2, .int v5), (4, .int v4), (5, .int v5)]) C rfl (Nat.le_of_ble_eq_true rfl) rfl ?_
  refine mg_aload_n C rfl rfl ?_
  refine mh_gI C rfl rfl rfl (by decide) hf (fun x1 hf => ?_)
  refine mg_istore_n (lv' := [(0, .ref v0), (1, .int v4), (2, .int v5), (3, .int x1), (4, .int v4), (5, .int v5)]) C rfl (Nat.le_of_ble_eq_true rfl) rfl ?_
  refine mg_sub (lv' := [(0, .ref v0), (1, .int v4), (2, .int v5), (3, .int x1), (4, .int v4)]) (by simp) ?_
  exact wX12_bestNow_69 C hRm hd hn hk hw hk9 hf
def bX12_bestNow_9 (N : Nat)  (k9 : Nat → Int32 → Int32 → Int32 → Int32 → mm_C → mR Int32) (v0 : Nat) (v1 : Int32) (v2 : Int32) (v3 : Int32) (v4 : Int32) (c : mm_C) : mR Int32 :=
  Option.bind (gR c v0 12 3) fun x1 => Option.bind (aI c x1 (4 : Int32)) fun x2 => if x2 ≤ v4 then (bX12_bestNow_75 N  v1 c) else (cV 12 v0 c (fX12_dayBy N v0 v4 c) fun (_ : Unit) c3 => Option.bind (gI c3 v0 12 35) fun x4 => cS (fX12_bitsOf N x4 c3) fun r5 c6 => if r5 < v2 then (bX12_bestNow_69 N  k9 v0 v1 v2 v3 v4 c6) else (if ¬ r5 = v2 then (bX12_bestNow_58 N  k9 v0 v4 r5 c6) else (Option.bind (gI c6 v0 12 36) fun x7 => if x7 < v3 then (bX12_bestNow_58 N  k9 v0 v4 r5 c6) else (bX12_bestNow_69 N  k9 v0 v1 v2 v3 v4 c6))))
set_option maxRecDepth 100000 in
theorem wX12_bestNow_9 {Z : mm_Z} {X : mm_T} {k w mc ms d n N : Nat} {Q : mm_O → mm_H → Prop} (C : mm_Ok Z qX12_bestNow X) (hRm : mt_R X = mm_rm d mc ms) (hd : 7 ≤ d) (hn : n + 1 < 1000000) (hk : k + 1 ≤ mc) (hw : w + 6 ≤ ms) {k9 : Nat → Int32 → Int32 → Int32 → Int32 → mm_C → mR Int32} (hk9 : ∀ (v0 : Nat) (v1 : Int32) (v2 : Int32) (v3 : Int32) (v4 : Int32) (c : mm_C), hO 0 ovI n (k9 v0 v1 v2 v3 v4 c) Q → mG Z qX12_bestNow X k w mc ms Q (9, [(0, .ref v0), (1, .int v1), (2, .int v2), (3, .int v3), (4, .int v4)], [], (n, c))) {v0 : Nat} {v1 : Int32} {v2 : Int32} {v3 : Int32} {v4 : Int32} {c : mm_C} (hf : hO 0 ovI n (bX12_bestNow_9 N  k9 v0 v1 v2 v3 v4 c) Q) : mG Z qX12_bestNow X k w mc ms Q (9, [(0, .ref v0), (1, .int v1), (2, .int v2), (3, .int v3), (4, .int v4)], [], (n, c)) := by
  unfold bX12_bestNow_9 at hf
  refine mg_iload C rfl rfl ?_
  refine mg_aload_n C rfl rfl ?_
  refine mh_gR C rfl rfl rfl (by decide) hf (fun x1 hf => ?_)
  refine mg_iconst (v := 4) C rfl (by decide) ?_
  refine mh_aI C rfl hf (fun x2 hf => ?_)
  refine mh_icmp_ge C rfl hf (fun e_17 hf => ?_) (fun e_17 hf => ?_)
  · refine mg_sub (lv' := [(1, .int v1)]) (by simp) ?_
    exact wX12_bestNow_75 C hRm hd hn hk hw hf
  · refine mg_aload_n C rfl rfl ?_
    refine mg_iload C rfl rfl ?_
    refine mh_cVU (M' := qX12_dayBy) C rfl rfl aX12_dayBy iX12_dayBy sX12_dayBy hRm (by omega) (by decide) (by omega) (by omega) rfl rfl rfl (Nat.le_of_ble_eq_true rfl) rfl hf (fun hs => wX12_dayBy (by omega) (by omega) hs) (fun c3 hf => ?_)
    refine mg_aload_n C rfl rfl ?_
    refine mh_gI C rfl rfl rfl (by decide) hf (fun x4 hf => ?_)
    refine mh_cSI (M' := qX12_bitsOf) C rfl rfl aX12_bitsOf tX12_bitsOf hRm (by omega) (by decide) (by omega) (by omega) rfl rfl (Nat.le_of_ble_eq_true rfl) rfl hf (fun hs => wX12_bitsOf (by omega) (by omega) hs) (fun r5 c6 hf => ?_)
    refine mg_istore (lv' := [(0, .ref v0), (1, .int v1), (2, .int v2), (3, .int v3), (4, .int v4), (5, .int r5)]) C rfl (Nat.le_of_ble_eq_true rfl) rfl ?_
    refine mg_iload C rfl rfl ?_
    refine mg_iload_n C rfl rfl ?_
    refine mh_icmp_lt C rfl hf (fun e_38 hf => ?_) (fun e_38 hf => ?_)
    · refine mg_sub (lv' := [(0, .ref v0), (1, .int v1), (2, .int v2), (3, .int v3), (4, .int v4)]) (by simp) ?_
      exact wX12_bestNow_69 C hRm hd hn hk hw hk9 hf
    · refine mg_iload C rfl rfl ?_
      refine mg_iload_n C rfl rfl ?_
      refine mh_icmp_ne C rfl hf (fun e_44 hf => ?_) (fun e_44 hf => ?_)
      · refine mg_sub (lv' := [(0, .ref v0), (4, .int v4), (5, .int r5)]) (by simp) ?_
        exact wX12_bestNow_58 C hRm hd hn hk hw hk9 hf
      · refine mg_aload_n C rfl rfl ?_
        refine mh_gI C rfl rfl rfl (by decide) hf (fun x7 hf => ?_)
        refine mg_iload_n C rfl rfl ?_
        refine mh_icmp_lt C rfl hf (fun e_52 hf => ?_) (fun e_52 hf => ?_)
        · refine mg_sub (lv' := [(0, .ref v0), (4, .int v4), (5, .int r5)]) (by simp) ?_
          exact wX12_bestNow_58 C hRm hd hn hk hw hk9 hf
        · refine mg_goto C rfl ?_
          refine mg_sub (lv' := [(0, .ref v0), (1, .int v1), (2, .int v2), (3, .int v3), (4, .int v4)]) (by simp) ?_
          exact wX12_bestNow_69 C hRm hd hn hk hw hk9 hf
def lX12_bestNow_9 (N : Nat)  : Nat → Nat → Int32 → Int32 → Int32 → Int32 → mm_C → mR Int32
  | 0, _, _, _, _, _, _ => none
  | m + 1, v0, v1, v2, v3, v4, c => bX12_bestNow_9 N  (lX12_bestNow_9 N  m) v0 v1 v2 v3 v4 c
theorem WX12_bestNow_9 {Z : mm_Z} {X : mm_T} {k w mc ms d n N : Nat} {Q : mm_O → mm_H → Prop} (C : mm_Ok Z qX12_bestNow X) (hRm : mt_R X = mm_rm d mc ms) (hd : 7 ≤ d) (hn : n + 1 < 1000000) (hk : k + 1 ≤ mc) (hw : w + 6 ≤ ms) : ∀ (m : Nat) {v0 : Nat} {v1 : Int32} {v2 : Int32} {v3 : Int32} {v4 : Int32} {c : mm_C} (hf : hO 0 ovI n (lX12_bestNow_9 N  m v0 v1 v2 v3 v4 c) Q), mG Z qX12_bestNow X k w mc ms Q (9, [(0, .ref v0), (1, .int v1), (2, .int v2), (3, .int v3), (4, .int v4)], [], (n, c)) := by
  intro m
  induction m with
  | zero => intro v0 v1 v2 v3 v4 c hf; exact absurd hf hO_none
  | succ m ih => intro v0 v1 v2 v3 v4 c hf; exact wX12_bestNow_9 C hRm hd hn hk hw (fun v0 v1 v2 v3 v4 c hf => ih hf) hf
def bX12_bestNow_0 (N : Nat)  (v0 : Nat) (c : mm_C) : mR Int32 :=
  lX12_bestNow_9 N  N v0 (-1 : Int32) (-1 : Int32) (0 : Int32) (-1 : Int32) c
set_option maxRecDepth 100000 in
theorem wX12_bestNow_0 {Z : mm_Z} {X : mm_T} {k w mc ms d n N : Nat} {Q : mm_O → mm_H → Prop} (C : mm_Ok Z qX12_bestNow X) (hRm : mt_R X = mm_rm d mc ms) (hd : 7 ≤ d) (hn : n + 1 < 1000000) (hk : k + 1 ≤ mc) (hw : w + 6 ≤ ms) {v0 : Nat} {c : mm_C} (hf : hO 0 ovI n (bX12_bestNow_0 N  v0 c) Q) : mG Z qX12_bestNow X k w mc ms Q (0, [(0, .ref v0)], [], (n, c)) := by
  unfold bX12_bestNow_0 at hf
  refine mg_iconst (v := (-1)) C rfl (by decide) ?_
  refine mg_istore_n (lv' := [(0, .ref v0), (1, .int (-1 : Int32))]) C rfl (Nat.le_of_ble_eq_true rfl) rfl ?_
  refine mg_iconst (v := (-1)) C rfl (by decide) ?_
  refine mg_istore_n (lv' := [(0, .ref v0), (1, .int (-1 : Int32)), (2, .int (-1 : Int32))]) C rfl (Nat.le_of_ble_eq_true rfl) rfl ?_
  refine mg_iconst (v := 0) C rfl (by decide) ?_
  refine mg_istore_n (lv' := [(0, .ref v0), (1, .int (-1 : Int32)), (2, .int (-1 : Int32)), (3, .int (0 : Int32))]) C rfl (Nat.le_of_ble_eq_true rfl) rfl ?_
  refine mg_iconst (v := (-1)) C rfl (by decide) ?_
  refine mg_istore (lv' := [(0, .ref v0), (1, .int (-1 : Int32)), (2, .int (-1 : Int32)), (3, .int (0 : Int32)), (4, .int (-1 : Int32))]) C rfl (Nat.le_of_ble_eq_true rfl) rfl ?_
  exact WX12_bestNow_9 C hRm hd hn hk hw N hf
def fX12_bestNow (N : Nat) (v0 : Nat) (c : mm_C) : mR Int32 := bX12_bestNow_0 N v0 c
set_option maxRecDepth 100000 in
theorem wX12_bestNow {Z : mm_Z} {d n N : Nat} (hd : 7 ≤ d) (hn : n + 1 < 1000000) {v0 : Nat} {c : mm_C} (hs : (fX12_bestNow N v0 c).isSome = true) : mC Z qX12_bestNow d 1 6 [.ref v0] (n, c) (mP 0 ovI n (fX12_bestNow N v0 c)) := by
  refine mC_of gX12_bestNow (by decide +kernel) (Nat.le_of_ble_eq_true rfl) fun X C hRm => ?_
  have hf := hO_mP 0 ovI n hs
  have hk : 0 + 1 ≤ 1 := Nat.le_of_ble_eq_true rfl
  have hw : 0 + 6 ≤ 6 := Nat.le_of_ble_eq_true rfl
  show mG _ _ _ _ _ _ _ _ (0, [(0, .ref v0)], [], (n, c))
  exact wX12_bestNow_0 C hRm hd hn hk hw hf
def bX12_best_0 (N : Nat)  (v0 : Nat) (c : mm_C) : mR Int32 :=
  Option.bind (pI c v0 12 2 (0 : Int32)) fun c1 => cV 12 v0 c1 (fX12_bestNow N v0 c1) fun r2 c3 => some (.inl r2, c3)
set_option maxRecDepth 100000 in
theorem wX12_best_0 {Z : mm_Z} {X : mm_T} {k w mc ms d n N : Nat} {Q : mm_O → mm_H → Prop} (C : mm_Ok Z qX12_best X) (hRm : mt_R X = mm_rm d mc ms) (hd : 8 ≤ d) (hn : n + 1 < 1000000) (hk : k + 1 ≤ mc) (hw : w + 6 ≤ ms) {v0 : Nat} {c : mm_C} (hf : hO 0 ovI n (bX12_best_0 N  v0 c) Q) : mG Z qX12_best X k w mc ms Q (0, [(0, .ref v0)], [], (n, c)) := by
  unfold bX12_best_0 at hf
  refine mg_aload_n C rfl rfl ?_
  refine mg_iconst (v := 0) C rfl (by decide) ?_
  refine mh_pI C rfl rfl rfl (by decide) rfl rfl rfl hf (fun c1 hf => ?_)
  refine mg_aload_n C rfl rfl ?_
  refine mh_cVI (M' := qX12_bestNow) C rfl rfl aX12_bestNow iX12_bestNow sX12_bestNow hRm (by omega) (by decide) (by omega) (by omega) rfl rfl rfl (Nat.le_of_ble_eq_true rfl) rfl hf (fun hs => wX12_bestNow (by omega) (by omega) hs) (fun r2 c3 hf => ?_)
  exact mh_ireturn C rfl (by omega) (by omega) rfl hf
def fX12_best (N : Nat) (v0 : Nat) (c : mm_C) : mR Int32 := bX12_best_0 N v0 c
set_option maxRecDepth 100000 in
theorem wX12_best {Z : mm_Z} {d n N : Nat} (hd : 8 ≤ d) (hn : n + 1 < 1000000) {v0 : Nat} {c : mm_C} (hs : (fX12_best N v0 c).isSome = true) : mC Z qX12_best d 1 6 [.ref v0] (n, c) (mP 0 ovI n (fX12_best N v0 c)) := by
  refine mC_of gX12_best (by decide +kernel) (Nat.le_of_ble_eq_true rfl) fun X C hRm => ?_
  have hf := hO_mP 0 ovI n hs
  have hk : 0 + 1 ≤ 1 := Nat.le_of_ble_eq_true rfl
  have hw : 0 + 6 ≤ 6 := Nat.le_of_ble_eq_true rfl
  show mG _ _ _ _ _ _ _ _ (0, [(0, .ref v0)], [], (n, c))
  exact wX12_best_0 C hRm hd hn hk hw hf
def bX12_idle_22 (N : Nat)  (v0 : Nat) (c : mm_C) : mR Int32 :=
  cV 12 v0 c (fX12_fail N v0 (1 : Int32) c) fun r1 c2 => some (.inl r1, c2)
set_option maxRecDepth 100000 in
theorem wX12_idle_22 {Z : mm_Z} {X : mm_T} {k w mc ms d n N : Nat} {Q : mm_O → mm_H → Prop} (C : mm_Ok Z qX12_idle X) (hRm : mt_R X = mm_rm d mc ms) (hd : 7 ≤ d) (hn : n + 1 < 1000000) (hk : k + 1 ≤ mc) (hw : w + 6 ≤ ms) {v0 : Nat} {c : mm_C} (hf : hO 0 ovI n (bX12_idle_22 N  v0 c) Q) : mG Z qX12_idle X k w mc ms Q (22, [(0, .ref v0)], [], (n, c)) := by
  unfold bX12_idle_22 at hf
  refine mg_aload_n C rfl rfl ?_
  refine mg_iconst (v := 1) C rfl (by decide) ?_
  refine mh_cVI (M' := qX12_fail) C rfl rfl aX12_fail iX12_fail sX12_fail hRm (by omega) (by decide) (by omega) (by omega) rfl rfl rfl (Nat.le_of_ble_eq_true rfl) rfl hf (fun hs => wX12_fail (by omega) (by omega) hs) (fun r1 c2 hf => ?_)
  exact mh_ireturn C rfl (by omega) (by omega) rfl hf
def bX12_idle_0 (N : Nat)  (v0 : Nat) (v1 : Int32) (v2 : Int32) (c : mm_C) : mR Int32 :=
  Option.bind (pI c v0 12 2 (0 : Int32)) fun c1 => cV 12 v0 c1 (fX12_isRule N v0 v1 c1) fun r2 c3 => if r2 = 0 then (bX12_idle_22 N  v0 c3) else (if v2 < 0 then (bX12_idle_22 N  v0 c3) else (if v2 ≤ (1 : Int32) then (cV 12 v0 c3 (fX12_dayBy N v0 v1 c3) fun (_ : Unit) c4 => if ¬ v2 = 0 then (Option.bind (gI c4 v0 12 40) fun x5 => some (.inl x5, c4)) else (Option.bind (gI c4 v0 12 39) fun x6 => some (.inl x6, c4))) else (bX12_idle_22 N  v0 c3)))
set_option maxRecDepth 100000 in
theorem wX12_idle_0 {Z : mm_Z} {X : mm_T} {k w mc ms d n N : Nat} {Q : mm_O → mm_H → Prop} (C : mm_Ok Z qX12_idle X) (hRm : mt_R X = mm_rm d mc ms) (hd : 7 ≤ d) (hn : n + 1 < 1000000) (hk : k + 1 ≤ mc) (hw : w + 6 ≤ ms) {v0 : Nat} {v1 : Int32} {v2 : Int32} {c : mm_C} (hf : hO 0 ovI n (bX12_idle_0 N  v0 v1 v2 c) Q) : mG Z qX12_idle X k w mc ms Q (0, [(0, .ref v0), (1, .int v1), (2, .int v2)], [], (n, c)) := by
  unfold bX12_idle_0 at hf
  refine mg_aload_n C rfl rfl ?_
  refine mg_iconst (v := 0) C rfl (by decide) ?_
  refine mh_pI C rfl rfl rfl (by decide) rfl rfl rfl hf (fun c1 hf => ?_)
  refine mg_aload_n C rfl rfl ?_
  refine mg_iload_n C rfl rfl ?_
  refine mh_cVI (M' := qX12_isRule) C rfl rfl aX12_isRule iX12_isRule sX12_isRule hRm (by omega) (by decide) (by omega) (by omega) rfl rfl rfl (Nat.le_of_ble_eq_true rfl) rfl hf (fun hs => wX12_isRule (by omega) (by omega) hs) (fun r2 c3 hf => ?_)
  refine mh_if_eq C rfl hf (fun e_10 hf => ?_) (fun e_10 hf => ?_)
  · refine mg_sub (lv' := [(0, .ref v0)]) (by simp) ?_
    exact wX12_idle_22 C hRm hd hn hk hw hf
  · refine mg_iload_n C rfl rfl ?_
    refine mh_if_lt C rfl hf (fun e_14 hf => ?_) (fun e_14 hf => ?_)
    · refine mg_sub (lv' := [(0, .ref v0)]) (by simp) ?_
      exact wX12_idle_22 C hRm hd hn hk hw hf
    · refine mg_iload_n C rfl rfl ?_
      refine mg_iconst (v := 1) C rfl (by decide) ?_
      refine mh_icmp_le C rfl hf (fun e_19 hf => ?_) (fun e_19 hf => ?_)
      · refine mg_aload_n C rfl rfl ?_
        refine mg_iload_n C rfl rfl ?_
        refine mh_cVU (M' := qX12_dayBy) C rfl rfl aX12_dayBy iX12_dayBy sX12_dayBy hRm (by omega) (by decide) (by omega) (by omega) rfl rfl rfl (Nat.le_of_ble_eq_true rfl) rfl hf (fun hs => wX12_dayBy (by omega) (by omega) hs) (fun c4 hf => ?_)
        refine mg_iload_n C rfl rfl ?_
        refine mh_if_ne C rfl hf (fun e_34 hf => ?_) (fun e_34 hf => ?_)
        · refine mg_aload_n C rfl rfl ?_
          refine mh_gI C rfl rfl rfl (by decide) hf (fun x5 hf => ?_)
          exact mh_ireturn C rfl (by omega) (by omega) rfl hf
        · refine mg_aload_n C rfl rfl ?_
          refine mh_gI C rfl rfl rfl (by decide) hf (fun x6 hf => ?_)
          refine mg_goto C rfl ?_
          exact mh_ireturn C rfl (by omega) (by omega) rfl hf
      · refine mg_sub (lv' := [(0, .ref v0)]) (by simp) ?_
        exact wX12_idle_22 C hRm hd hn hk hw hf
def fX12_idle (N : Nat) (v0 : Nat) (v1 : Int32) (v2 : Int32) (c : mm_C) : mR Int32 := bX12_idle_0 N v0 v1 v2 c
set_option maxRecDepth 100000 in
theorem wX12_idle {Z : mm_Z} {d n N : Nat} (hd : 7 ≤ d) (hn : n + 1 < 1000000) {v0 : Nat} {v1 : Int32} {v2 : Int32} {c : mm_C} (hs : (fX12_idle N v0 v1 v2 c).isSome = true) : mC Z qX12_idle d 1 6 [.ref v0, .int v1, .int v2] (n, c) (mP 0 ovI n (fX12_idle N v0 v1 v2 c)) := by
  refine mC_of gX12_idle (by decide +kernel) (Nat.le_of_ble_eq_true rfl) fun X C hRm => ?_
  have hf := hO_mP 0 ovI n hs
  have hk : 0 + 1 ≤ 1 := Nat.le_of_ble_eq_true rfl
  have hw : 0 + 6 ≤ 6 := Nat.le_of_ble_eq_true rfl
  show mG _ _ _ _ _ _ _ _ (0, [(0, .ref v0), (1, .int v1), (2, .int v2)], [], (n, c))
  exact wX12_idle_0 C hRm hd hn hk hw hf
def bX12_behind_53 (N : Nat)   (c : mm_C) : mR Int32 :=
  some (.inl (100000 : Int32), c)
set_option maxRecDepth 100000 in
theorem wX12_behind_53 {Z : mm_Z} {X : mm_T} {k w mc ms d n N : Nat} {Q : mm_O → mm_H → Prop} (C : mm_Ok Z qX12_behind X) (hRm : mt_R X = mm_rm d mc ms) (hd : 4 ≤ d) (hn : n + 1 < 1000000) (hk : k + 1 ≤ mc) (hw : w + 6 ≤ ms)  {c : mm_C} (hf : hO 0 ovI n (bX12_behind_53 N   c) Q) : mG Z qX12_behind X k w mc ms Q (53, [], [], (n, c)) := by
  unfold bX12_behind_53 at hf
  refine mg_ldc C rfl rfl ?_
  exact mh_ireturn C rfl (by omega) (by omega) rfl hf
def bX12_behind_38 (N : Nat)  (v0 : Nat) (v1 : Int32) (v3 : Int32) (c : mm_C) : mR Int32 :=
  Option.bind (gR c v0 12 6) fun x1 => Option.bind (aI c x1 v1) fun x2 => some (.inl (v3 + x2), c)
set_option maxRecDepth 100000 in
theorem wX12_behind_38 {Z : mm_Z} {X : mm_T} {k w mc ms d n N : Nat} {Q : mm_O → mm_H → Prop} (C : mm_Ok Z qX12_behind X) (hRm : mt_R X = mm_rm d mc ms) (hd : 4 ≤ d) (hn : n + 1 < 1000000) (hk : k + 1 ≤ mc) (hw : w + 6 ≤ ms) {v0 : Nat} {v1 : Int32} {v3 : Int32} {c : mm_C} (hf : hO 0 ovI n (bX12_behind_38 N  v0 v1 v3 c) Q) : mG Z qX12_behind X k w mc ms Q (38, [(0, .ref v0), (1, .int v1), (3, .int v3)], [], (n, c)) := by
  unfold bX12_behind_38 at hf
  refine mg_iload_n C rfl rfl ?_
  refine mg_aload_n C rfl rfl ?_
  refine mh_gR C rfl rfl rfl (by decide) hf (fun x1 hf => ?_)
  refine mg_iload_n C rfl rfl ?_
  refine mh_aI C rfl hf (fun x2 hf => ?_)
  refine mg_iadd C rfl ?_
  exact mh_ireturn C rfl (by omega) (by omega) rfl hf
def bX12_behind_11 (N : Nat)  (k11 : Nat → Int32 → Int32 → mm_C → mR Int32) (v0 : Nat) (v1 : Int32) (v3 : Int32) (c : mm_C) : mR Int32 :=
  Option.bind (gR c v0 12 8) fun x1 => Option.bind (aI c x1 v1) fun x2 => if x2 < v3 then (bX12_behind_53 N  c) else (Option.bind (gI c v0 12 30) fun x3 => if x3 ≤ v3 then (bX12_behind_53 N  c) else (cV 12 v0 c (fX12_canBeHad N v0 v1 v3 c) fun r4 c5 => if r4 = 0 then (k11 v0 v1 (v3 + 1) c5) else (bX12_behind_38 N  v0 v1 v3 c5)))
set_option maxRecDepth 100000 in
theorem wX12_behind_11 {Z : mm_Z} {X : mm_T} {k w mc ms d n N : Nat} {Q : mm_O → mm_H → Prop} (C : mm_Ok Z qX12_behind X) (hRm : mt_R X = mm_rm d mc ms) (hd : 4 ≤ d) (hn : n + 1 < 1000000) (hk : k + 1 ≤ mc) (hw : w + 6 ≤ ms) {k11 : Nat → Int32 → Int32 → mm_C → mR Int32} (hk11 : ∀ (v0 : Nat) (v1 : Int32) (v3 : Int32) (c : mm_C), hO 0 ovI n (k11 v0 v1 v3 c) Q → mG Z qX12_behind X k w mc ms Q (11, [(0, .ref v0), (1, .int v1), (3, .int v3)], [], (n, c))) {v0 : Nat} {v1 : Int32} {v3 : Int32} {c : mm_C} (hf : hO 0 ovI n (bX12_behind_11 N  k11 v0 v1 v3 c) Q) : mG Z qX12_behind X k w mc ms Q (11, [(0, .ref v0), (1, .int v1), (3, .int v3)], [], (n, c)) := by
  unfold bX12_behind_11 at hf
  refine mg_iload_n C rfl rfl ?_
  refine mg_aload_n C rfl rfl ?_
  refine mh_gR C rfl rfl rfl (by decide) hf (fun x1 hf => ?_)
  refine mg_iload_n C rfl rfl ?_
  refine mh_aI C rfl hf (fun x2 hf => ?_)
  refine mh_icmp_gt C rfl hf (fun e_18 hf => ?_) (fun e_18 hf => ?_)
  · refine mg_sub (lv' := []) (by simp) ?_
    exact wX12_behind_53 C hRm hd hn hk hw hf
  · refine mg_iload_n C rfl rfl ?_
    refine mg_aload_n C rfl rfl ?_
    refine mh_gI C rfl rfl rfl (by decide) hf (fun x3 hf => ?_)
    refine mh_icmp_ge C rfl hf (fun e_26 hf => ?_) (fun e_26 hf => ?_)
    · refine mg_sub (lv' := []) (by simp) ?_
      exact wX12_behind_53 C hRm hd hn hk hw hf
    · refine mg_aload_n C rfl rfl ?_
      refine mg_iload_n C rfl rfl ?_
      refine mg_iload_n C rfl rfl ?_
      refine mh_cVI (M' := qX12_canBeHad) C rfl rfl aX12_canBeHad iX12_canBeHad sX12_canBeHad hRm (by omega) (by decide) (by omega) (by omega) rfl rfl rfl (Nat.le_of_ble_eq_true rfl) rfl hf (fun hs => wX12_canBeHad (by omega) (by omega) hs) (fun r4 c5 hf => ?_)
      refine mh_if_eq C rfl hf (fun e_35 hf => ?_) (fun e_35 hf => ?_)
      · refine mg_iinc (lv' := [(0, .ref v0), (1, .int v1), (3, .int (v3 + 1))]) C rfl (Nat.le_of_ble_eq_true rfl) rfl (show _ + Int32.ofInt 1 = _ + 1 by congr 1) rfl ?_
        refine mg_goto C rfl ?_
        exact hk11 _ _ _ _ hf
      · exact wX12_behind_38 C hRm hd hn hk hw hf
def lX12_behind_11 (N : Nat)  : Nat → Nat → Int32 → Int32 → mm_C → mR Int32
  | 0, _, _, _, _ => none
  | m + 1, v0, v1, v3, c => bX12_behind_11 N  (lX12_behind_11 N  m) v0 v1 v3 c
theorem WX12_behind_11 {Z : mm_Z} {X : mm_T} {k w mc ms d n N : Nat} {Q : mm_O → mm_H → Prop} (C : mm_Ok Z qX12_behind X) (hRm : mt_R X = mm_rm d mc ms) (hd : 4 ≤ d) (hn : n + 1 < 1000000) (hk : k + 1 ≤ mc) (hw : w + 6 ≤ ms) : ∀ (m : Nat) {v0 : Nat} {v1 : Int32} {v3 : Int32} {c : mm_C} (hf : hO 0 ovI n (lX12_behind_11 N  m v0 v1 v3 c) Q), mG Z qX12_behind X k w mc ms Q (11, [(0, .ref v0), (1, .int v1), (3, .int v3)], [], (n, c)) := by
  intro m
  induction m with
  | zero => intro v0 v1 v3 c hf; exact absurd hf hO_none
  | succ m ih => intro v0 v1 v3 c hf; exact wX12_behind_11 C hRm hd hn hk hw (fun v0 v1 v3 c hf => ih hf) hf
def bX12_behind_0 (N : Nat)  (v0 : Nat) (v1 : Int32) (v2 : Int32) (c : mm_C) : mR Int32 :=
  Option.bind (gR c v0 12 7) fun x1 => Option.bind (aI c x1 v1) fun x2 => lX12_behind_11 N  N v0 v1 (mxI v2 x2) c
set_option maxRecDepth 100000 in
theorem wX12_behind_0 {Z : mm_Z} {X : mm_T} {k w mc ms d n N : Nat} {Q : mm_O → mm_H → Prop} (C : mm_Ok Z qX12_behind X) (hRm : mt_R X = mm_rm d mc ms) (hd : 4 ≤ d) (hn : n + 1 < 1000000) (hk : k + 1 ≤ mc) (hw : w + 6 ≤ ms) {v0 : Nat} {v1 : Int32} {v2 : Int32} {c : mm_C} (hf : hO 0 ovI n (bX12_behind_0 N  v0 v1 v2 c) Q) : mG Z qX12_behind X k w mc ms Q (0, [(0, .ref v0), (1, .int v1), (2, .int v2)], [], (n, c)) := by
  unfold bX12_behind_0 at hf
  refine mg_iload_n C rfl rfl ?_
  refine mg_aload_n C rfl rfl ?_
  refine mh_gR C rfl rfl rfl (by decide) hf (fun x1 hf => ?_)
  refine mg_iload_n C rfl rfl ?_
  refine mh_aI C rfl hf (fun x2 hf => ?_)
  refine mh_mxI C rfl rfl hRm (by omega) (Nat.le_of_ble_eq_true rfl) ?_
  refine mg_istore_n (lv' := [(0, .ref v0), (1, .int v1), (2, .int v2), (3, .int (mxI v2 x2))]) C rfl (Nat.le_of_ble_eq_true rfl) rfl ?_
  refine mg_sub (lv' := [(0, .ref v0), (1, .int v1), (3, .int (mxI v2 x2))]) (by simp) ?_
  exact WX12_behind_11 C hRm hd hn hk hw N hf
def fX12_behind (N : Nat) (v0 : Nat) (v1 : Int32) (v2 : Int32) (c : mm_C) : mR Int32 := bX12_behind_0 N v0 v1 v2 c
set_option maxRecDepth 100000 in
theorem wX12_behind {Z : mm_Z} {d n N : Nat} (hd : 4 ≤ d) (hn : n + 1 < 1000000) {v0 : Nat} {v1 : Int32} {v2 : Int32} {c : mm_C} (hs : (fX12_behind N v0 v1 v2 c).isSome = true) : mC Z qX12_behind d 1 6 [.ref v0, .int v1, .int v2] (n, c) (mP 0 ovI n (fX12_behind N v0 v1 v2 c)) := by
  refine mC_of gX12_behind (by decide +kernel) (Nat.le_of_ble_eq_true rfl) fun X C hRm => ?_
  have hf := hO_mP 0 ovI n hs
  have hk : 0 + 1 ≤ 1 := Nat.le_of_ble_eq_true rfl
  have hw : 0 + 6 ≤ 6 := Nat.le_of_ble_eq_true rfl
  show mG _ _ _ _ _ _ _ _ (0, [(0, .ref v0), (1, .int v1), (2, .int v2)], [], (n, c))
  exact wX12_behind_0 C hRm hd hn hk hw hf
def bX12_isOpen_54 (N : Nat)   (c : mm_C) : mR Int32 :=
  rZ (1 : Int32) c
set_option maxRecDepth 100000 in
theorem wX12_isOpen_54 {Z : mm_Z} {X : mm_T} {k w mc ms d n N : Nat} {Q : mm_O → mm_H → Prop} (C : mm_Ok Z qX12_isOpen X) (hRm : mt_R X = mm_rm d mc ms) (hd : 2 ≤ d) (hn : n + 1 < 1000000) (hk : k + 1 ≤ mc) (hw : w + 6 ≤ ms)  {c : mm_C} (hf : hO 0 ovI n (bX12_isOpen_54 N   c) Q) : mG Z qX12_isOpen X k w mc ms Q (54, [], [], (n, c)) := by
  unfold bX12_isOpen_54 at hf
  refine mg_iconst (v := 1) C rfl (by decide) ?_
  refine mg_goto C rfl ?_
  exact mh_zreturn C rfl (by omega) (by omega) rfl hf
def bX12_isOpen_0 (N : Nat)  (v0 : Nat) (v1 : Int32) (v2 : Int32) (c : mm_C) : mR Int32 :=
  Option.bind (gI c v0 12 42) fun x1 => cS (fX12_isOf N x1 v1 c) fun r2 c3 => if r2 = 0 then (rZ (0 : Int32) c3) else (cS (fX12_isOf N v2 v1 c3) fun r4 c5 => if ¬ r4 = 0 then (rZ (0 : Int32) c5) else (Option.bind (gR c5 v0 12 9) fun x6 => Option.bind (aI c5 x6 v1) fun x7 => if x7 = (-1 : Int32) then (bX12_isOpen_54 N  c5) else (Option.bind (gR c5 v0 12 26) fun x8 => Option.bind (aI c5 x8 (2 : Int32)) fun x9 => Option.bind (gI c5 v0 12 43) fun x10 => Option.bind (gR c5 v0 12 9) fun x11 => Option.bind (aI c5 x11 v1) fun x12 => cS (fX12_isOf N ((x9 ||| v2) ||| x10) x12 c5) fun r13 c14 => if r13 = 0 then (rZ (0 : Int32) c14) else (bX12_isOpen_54 N  c14))))
set_option maxRecDepth 100000 in
theorem wX12_isOpen_0 {Z : mm_Z} {X : mm_T} {k w mc ms d n N : Nat} {Q : mm_O → mm_H → Prop} (C : mm_Ok Z qX12_isOpen X) (hRm : mt_R X = mm_rm d mc ms) (hd : 2 ≤ d) (hn : n + 1 < 1000000) (hk : k + 1 ≤ mc) (hw : w + 6 ≤ ms) {v0 : Nat} {v1 : Int32} {v2 : Int32} {c : mm_C} (hf : hO 0 ovI n (bX12_isOpen_0 N  v0 v1 v2 c) Q) : mG Z qX12_isOpen X k w mc ms Q (0, [(0, .ref v0), (1, .int v1), (2, .int v2)], [], (n, c)) := by
  unfold bX12_isOpen_0 at hf
  refine mg_aload_n C rfl rfl ?_
  refine mh_gI C rfl rfl rfl (by decide) hf (fun x1 hf => ?_)
  refine mg_iload_n C rfl rfl ?_
  refine mh_cSI (M' := qX12_isOf) C rfl rfl aX12_isOf tX12_isOf hRm (by omega) (by decide) (by omega) (by omega) rfl rfl (Nat.le_of_ble_eq_true rfl) rfl hf (fun hs => wX12_isOf (by omega) (by omega) hs) (fun r2 c3 hf => ?_)
  refine mh_if_eq C rfl hf (fun e_8 hf => ?_) (fun e_8 hf => ?_)
  · refine mg_iconst (v := 0) C rfl (by decide) ?_
    exact mh_zreturn C rfl (by omega) (by omega) rfl hf
  · refine mg_iload_n C rfl rfl ?_
    refine mg_iload_n C rfl rfl ?_
    refine mh_cSI (M' := qX12_isOf) C rfl rfl aX12_isOf tX12_isOf hRm (by omega) (by decide) (by omega) (by omega) rfl rfl (Nat.le_of_ble_eq_true rfl) rfl hf (fun hs => wX12_isOf (by omega) (by omega) hs) (fun r4 c5 hf => ?_)
    refine mh_if_ne C rfl hf (fun e_16 hf => ?_) (fun e_16 hf => ?_)
    · refine mg_iconst (v := 0) C rfl (by decide) ?_
      exact mh_zreturn C rfl (by omega) (by omega) rfl hf
    · refine mg_aload_n C rfl rfl ?_
      refine mh_gR C rfl rfl rfl (by decide) hf (fun x6 hf => ?_)
      refine mg_iload_n C rfl rfl ?_
      refine mh_aI C rfl hf (fun x7 hf => ?_)
      refine mg_iconst (v := (-1)) C rfl (by decide) ?_
      refine mh_icmp_eq C rfl hf (fun e_26 hf => ?_) (fun e_26 hf => ?_)
      · refine mg_sub (lv' := []) (by simp) ?_
        exact wX12_isOpen_54 C hRm hd hn hk hw hf
      · refine mg_aload_n C rfl rfl ?_
        refine mh_gR C rfl rfl rfl (by decide) hf (fun x8 hf => ?_)
        refine mg_iconst (v := 2) C rfl (by decide) ?_
        refine mh_aI C rfl hf (fun x9 hf => ?_)
        refine mg_iload_n C rfl rfl ?_
        refine mg_ior C rfl ?_
        refine mg_aload_n C rfl rfl ?_
        refine mh_gI C rfl rfl rfl (by decide) hf (fun x10 hf => ?_)
        refine mg_ior C rfl ?_
        refine mg_aload_n C rfl rfl ?_
        refine mh_gR C rfl rfl rfl (by decide) hf (fun x11 hf => ?_)
        refine mg_iload_n C rfl rfl ?_
        refine mh_aI C rfl hf (fun x12 hf => ?_)
        refine mh_cSI (M' := qX12_isOf) C rfl rfl aX12_isOf tX12_isOf hRm (by omega) (by decide) (by omega) (by omega) rfl rfl (Nat.le_of_ble_eq_true rfl) rfl hf (fun hs => wX12_isOf (by omega) (by omega) hs) (fun r13 c14 hf => ?_)
        refine mh_if_eq C rfl hf (fun e_51 hf => ?_) (fun e_51 hf => ?_)
        · refine mg_iconst (v := 0) C rfl (by decide) ?_
          exact mh_zreturn C rfl (by omega) (by omega) rfl hf
        · refine mg_sub (lv' := []) (by simp) ?_
          exact wX12_isOpen_54 C hRm hd hn hk hw hf
def fX12_isOpen (N : Nat) (v0 : Nat) (v1 : Int32) (v2 : Int32) (c : mm_C) : mR Int32 := bX12_isOpen_0 N v0 v1 v2 c
set_option maxRecDepth 100000 in
theorem wX12_isOpen {Z : mm_Z} {d n N : Nat} (hd : 2 ≤ d) (hn : n + 1 < 1000000) {v0 : Nat} {v1 : Int32} {v2 : Int32} {c : mm_C} (hs : (fX12_isOpen N v0 v1 v2 c).isSome = true) : mC Z qX12_isOpen d 1 6 [.ref v0, .int v1, .int v2] (n, c) (mP 0 ovI n (fX12_isOpen N v0 v1 v2 c)) := by
  refine mC_of gX12_isOpen (by decide +kernel) (Nat.le_of_ble_eq_true rfl) fun X C hRm => ?_
  have hf := hO_mP 0 ovI n hs
  have hk : 0 + 1 ≤ 1 := Nat.le_of_ble_eq_true rfl
  have hw : 0 + 6 ≤ 6 := Nat.le_of_ble_eq_true rfl
  show mG _ _ _ _ _ _ _ _ (0, [(0, .ref v0), (1, .int v1), (2, .int v2)], [], (n, c))
  exact wX12_isOpen_0 C hRm hd hn hk hw hf
def bX12_tellSoon_174 (N : Nat)  (k37 : Nat → Int32 → mm_C → mR Unit) (v0 : Nat) (v3 : Int32) (c : mm_C) : mR Unit :=
  k37 v0 (v3 + 1) c
set_option maxRecDepth 100000 in
theorem wX12_tellSoon_174 {Z : mm_Z} {X : mm_T} {k w mc ms d n N : Nat} {Q : mm_O → mm_H → Prop} (C : mm_Ok Z qX12_tellSoon X) (hRm : mt_R X = mm_rm d mc ms) (hd : 5 ≤ d) (hn : n + 1 < 1000000) (hk : k + 1 ≤ mc) (hw : w + 6 ≤ ms) {k37 : Nat → Int32 → mm_C → mR Unit} (hk37 : ∀ (v0 : Nat) (v3 : Int32) (c : mm_C), hO 0 ovU n (k37 v0 v3 c) Q → mG Z qX12_tellSoon X k w mc ms Q (37, [(0, .ref v0), (3, .int v3)], [], (n, c))) {v0 : Nat} {v3 : Int32} {c : mm_C} (hf : hO 0 ovU n (bX12_tellSoon_174 N  k37 v0 v3 c) Q) : mG Z qX12_tellSoon X k w mc ms Q (174, [(0, .ref v0), (3, .int v3)], [], (n, c)) := by
  unfold bX12_tellSoon_174 at hf
  refine mg_iinc (lv' := [(0, .ref v0), (3, .int (v3 + 1))]) C rfl (Nat.le_of_ble_eq_true rfl) rfl (show _ + Int32.ofInt 1 = _ + 1 by congr 1) rfl ?_
  refine mg_goto C rfl ?_
  exact hk37 _ _ _ hf
def bX12_tellSoon_168 (N : Nat)  (k37 : Nat → Int32 → mm_C → mR Unit) (k52 : Nat → Int32 → Int32 → mm_C → mR Unit) (v0 : Nat) (v3 : Int32) (v4 : Int32) (c : mm_C) : mR Unit :=
  k52 v0 v3 (v4 + 1) c
set_option maxRecDepth 100000 in
theorem wX12_tellSoon_168 {Z : mm_Z} {X : mm_T} {k w mc ms d n N : Nat} {Q : mm_O → mm_H → Prop} (C : mm_Ok Z qX12_tellSoon X) (hRm : mt_R X = mm_rm d mc ms) (hd : 5 ≤ d) (hn : n + 1 < 1000000) (hk : k + 1 ≤ mc) (hw : w + 6 ≤ ms) {k37 : Nat → Int32 → mm_C → mR Unit} (hk37 : ∀ (v0 : Nat) (v3 : Int32) (c : mm_C), hO 0 ovU n (k37 v0 v3 c) Q → mG Z qX12_tellSoon X k w mc ms Q (37, [(0, .ref v0), (3, .int v3)], [], (n, c))) {k52 : Nat → Int32 → Int32 → mm_C → mR Unit} (hk52 : ∀ (v0 : Nat) (v3 : Int32) (v4 : Int32) (c : mm_C), hO 0 ovU n (k52 v0 v3 v4 c) Q → mG Z qX12_tellSoon X k w mc ms Q (52, [(0, .ref v0), (3, .int v3), (4, .int v4)], [], (n, c))) {v0 : Nat} {v3 : Int32} {v4 : Int32} {c : mm_C} (hf : hO 0 ovU n (bX12_tellSoon_168 N  k37 k52 v0 v3 v4 c) Q) : mG Z qX12_tellSoon X k w mc ms Q (168, [(0, .ref v0), (3, .int v3), (4, .int v4)], [], (n, c)) := by
  unfold bX12_tellSoon_168 at hf
  refine mg_iinc (lv' := [(0, .ref v0), (3, .int v3), (4, .int (v4 + 1))]) C rfl (Nat.le_of_ble_eq_true rfl) rfl (show _ + Int32.ofInt 1 = _ + 1 by congr 1) rfl ?_
  refine mg_goto C rfl ?_
  exact hk52 _ _ _ _ hf
def bX12_tellSoon_92 (N : Nat)  (k37 : Nat → Int32 → mm_C → mR Unit) (k52 : Nat → Int32 → Int32 → mm_C → mR Unit) (v0 : Nat) (v3 : Int32) (v4 : Int32) (s0 : Int32) (c : mm_C) : mR Unit :=
  Option.bind (gR c v0 12 41) fun x1 => Option.bind (aI c x1 (((2 : Int32) * v3) + s0)) fun x2 => Option.bind (gR c v0 12 41) fun x3 => Option.bind (aI c x3 ((((2 : Int32) * v3) + (1 : Int32)) - s0)) fun x4 => Option.bind (gR c v0 12 3) fun x5 => Option.bind (aI c x5 (2 : Int32)) fun x6 => Option.bind (gR c v0 12 41) fun x7 => Option.bind (gR c v0 12 41) fun x8 => Option.bind (aI c x8 (((2 : Int32) * (v3 ||| ((1 : Int32) <<< (v4 &&& 31)))) + s0)) fun x9 => cV 12 v0 c (fX12_behind N v0 v4 (mnI x2 (x4 + x6)) c) fun r10 c11 => Option.bind (tI c11 x7 (((2 : Int32) * (v3 ||| ((1 : Int32) <<< (v4 &&& 31)))) + s0) (mnI x9 r10)) fun c12 => bX12_tellSoon_168 N  k37 k52 v0 v3 v4 c12
set_option maxRecDepth 100000 in
theorem wX12_tellSoon_92 {Z : mm_Z} {X : mm_T} {k w mc ms d n N : Nat} {Q : mm_O → mm_H → Prop} (C : mm_Ok Z qX12_tellSoon X) (hRm : mt_R X = mm_rm d mc ms) (hd : 5 ≤ d) (hn : n + 1 < 1000000) (hk : k + 1 ≤ mc) (hw : w + 6 ≤ ms) {k37 : Nat → Int32 → mm_C → mR Unit} (hk37 : ∀ (v0 : Nat) (v3 : Int32) (c : mm_C), hO 0 ovU n (k37 v0 v3 c) Q → mG Z qX12_tellSoon X k w mc ms Q (37, [(0, .ref v0), (3, .int v3)], [], (n, c))) {k52 : Nat → Int32 → Int32 → mm_C → mR Unit} (hk52 : ∀ (v0 : Nat) (v3 : Int32) (v4 : Int32) (c : mm_C), hO 0 ovU n (k52 v0 v3 v4 c) Q → mG Z qX12_tellSoon X k w mc ms Q (52, [(0, .ref v0), (3, .int v3), (4, .int v4)], [], (n, c))) {v0 : Nat} {v3 : Int32} {v4 : Int32} {s0 : Int32} {c : mm_C} (hf : hO 0 ovU n (bX12_tellSoon_92 N  k37 k52 v0 v3 v4 s0 c) Q) : mG Z qX12_tellSoon X k w mc ms Q (92, [(0, .ref v0), (3, .int v3), (4, .int v4)], [.int s0], (n, c)) := by
  unfold bX12_tellSoon_92 at hf
  refine mg_istore (lv' := [(0, .ref v0), (3, .int v3), (4, .int v4), (5, .int s0)]) C rfl (Nat.le_of_ble_eq_true rfl) rfl ?_
  refine mg_aload_n C rfl rfl ?_
  refine mh_gR C rfl rfl rfl (by decide) hf (fun x1 hf => ?_)
  refine mg_iconst (v := 2) C rfl (by decide) ?_
  refine mg_iload_n C rfl rfl ?_
  refine mg_imul C rfl ?_
  refine mg_iload C rfl rfl ?_
  refine mg_iadd C rfl ?_
  refine mh_aI C rfl hf (fun x2 hf => ?_)
  refine mg_aload_n C rfl rfl ?_
  refine mh_gR C rfl rfl rfl (by decide) hf (fun x3 hf => ?_)
  refine mg_iconst (v := 2) C rfl (by decide) ?_
  refine mg_iload_n C rfl rfl ?_
  refine mg_imul C rfl ?_
  refine mg_iconst (v := 1) C rfl (by decide) ?_
  refine mg_iadd C rfl ?_
  refine mg_iload C rfl rfl ?_
  refine mg_isub C rfl ?_
  refine mh_aI C rfl hf (fun x4 hf => ?_)
  refine mg_aload_n C rfl rfl ?_
  refine mh_gR C rfl rfl rfl (by decide) hf (fun x5 hf => ?_)
  refine mg_iconst (v := 2) C rfl (by decide) ?_
  refine mh_aI C rfl hf (fun x6 hf => ?_)
  refine mg_iadd C rfl ?_
  refine mh_mnI C rfl rfl hRm (by omega) (Nat.le_of_ble_eq_true rfl) ?_
  refine mg_istore (lv' := [(0, .ref v0), (3, .int v3), (4, .int v4), (5, .int s0), (6, .int (mnI x2 (x4 + x6)))]) C rfl (Nat.le_of_ble_eq_true rfl) rfl ?_
  refine mg_iconst (v := 2) C rfl (by decide) ?_
  refine mg_iload_n C rfl rfl ?_
  refine mg_iconst (v := 1) C rfl (by decide) ?_
  refine mg_iload C rfl rfl ?_
  refine mg_ishl C rfl ?_
  refine mg_ior C rfl ?_
  refine mg_imul C rfl ?_
  refine mg_iload C rfl rfl ?_
  refine mg_iadd C rfl ?_
  refine mg_istore (lv' := [(0, .ref v0), (3, .int v3), (4, .int v4), (5, .int s0), (6, .int (mnI x2 (x4 + x6))), (7, .int (((2 : Int32) * (v3 ||| ((1 : Int32) <<< (v4 &&& 31)))) + s0))]) C rfl (Nat.le_of_ble_eq_true rfl) rfl ?_
  refine mg_aload_n C rfl rfl ?_
  refine mh_gR C rfl rfl rfl (by decide) hf (fun x7 hf => ?_)
  refine mg_iload C rfl rfl ?_
  refine mg_aload_n C rfl rfl ?_
  refine mh_gR C rfl rfl rfl (by decide) hf (fun x8 hf => ?_)
  refine mg_iload C rfl rfl ?_
  refine mh_aI C rfl hf (fun x9 hf => ?_)
  refine mg_aload_n C rfl rfl ?_
  refine mg_iload C rfl rfl ?_
  refine mg_iload C rfl rfl ?_
  refine mh_cVI (M' := qX12_behind) C rfl rfl aX12_behind iX12_behind sX12_behind hRm (by omega) (by decide) (by omega) (by omega) rfl rfl rfl (Nat.le_of_ble_eq_true rfl) rfl hf (fun hs => wX12_behind (by omega) (by omega) hs) (fun r10 c11 hf => ?_)
  refine mh_mnI C rfl rfl hRm (by omega) (Nat.le_of_ble_eq_true rfl) ?_
  refine mh_tI C rfl hf (fun c12 hf => ?_)
  refine mg_sub (lv' := [(0, .ref v0), (3, .int v3), (4, .int v4)]) (by simp) ?_
  exact wX12_tellSoon_168 C hRm hd hn hk hw hk37 hk52 hf
def bX12_tellSoon_52 (N : Nat)  (k37 : Nat → Int32 → mm_C → mR Unit) (k52 : Nat → Int32 → Int32 → mm_C → mR Unit) (v0 : Nat) (v3 : Int32) (v4 : Int32) (c : mm_C) : mR Unit :=
  Option.bind (gR c v0 12 3) fun x1 => Option.bind (aI c x1 (0 : Int32)) fun x2 => if x2 ≤ v4 then (bX12_tellSoon_174 N  k37 v0 v3 c) else (cV 12 v0 c (fX12_isOpen N v0 v4 v3 c) fun r3 c4 => if ¬ r3 = 0 then (Option.bind (gR c4 v0 12 4) fun x5 => Option.bind (aI c4 x5 v4) fun x6 => if ¬ x6 = (2 : Int32) then (bX12_tellSoon_92 N  k37 k52 v0 v3 v4 (0 : Int32) c4) else (bX12_tellSoon_92 N  k37 k52 v0 v3 v4 (1 : Int32) c4)) else (bX12_tellSoon_168 N  k37 k52 v0 v3 v4 c4))
set_option maxRecDepth 100000 in
theorem wX12_tellSoon_52 {Z : mm_Z} {X : mm_T} {k w mc ms d n N : Nat} {Q : mm_O → mm_H → Prop} (C : mm_Ok Z qX12_tellSoon X) (hRm : mt_R X = mm_rm d mc ms) (hd : 5 ≤ d) (hn : n + 1 < 1000000) (hk : k + 1 ≤ mc) (hw : w + 6 ≤ ms) {k37 : Nat → Int32 → mm_C → mR Unit} (hk37 : ∀ (v0 : Nat) (v3 : Int32) (c : mm_C), hO 0 ovU n (k37 v0 v3 c) Q → mG Z qX12_tellSoon X k w mc ms Q (37, [(0, .ref v0), (3, .int v3)], [], (n, c))) {k52 : Nat → Int32 → Int32 → mm_C → mR Unit} (hk52 : ∀ (v0 : Nat) (v3 : Int32) (v4 : Int32) (c : mm_C), hO 0 ovU n (k52 v0 v3 v4 c) Q → mG Z qX12_tellSoon X k w mc ms Q (52, [(0, .ref v0), (3, .int v3), (4, .int v4)], [], (n, c))) {v0 : Nat} {v3 : Int32} {v4 : Int32} {c : mm_C} (hf : hO 0 ovU n (bX12_tellSoon_52 N  k37 k52 v0 v3 v4 c) Q) : mG Z qX12_tellSoon X k w mc ms Q (52, [(0, .ref v0), (3, .int v3), (4, .int v4)], [], (n, c)) := by
  unfold bX12_tellSoon_52 at hf
  refine mg_iload C rfl rfl ?_
  refine mg_aload_n C rfl rfl ?_
  refine mh_gR C rfl rfl rfl (by decide) hf (fun x1 hf => ?_)
  refine mg_iconst (v := 0) C rfl (by decide) ?_
  refine mh_aI C rfl hf (fun x2 hf => ?_)
  refine mh_icmp_ge C rfl hf (fun e_60 hf => ?_) (fun e_60 hf => ?_)
  · refine mg_sub (lv' := [(0, .ref v0), (3, .int v3)]) (by simp) ?_
    exact wX12_tellSoon_174 C hRm hd hn hk hw hk37 hf
  · refine mg_aload_n C rfl rfl ?_
    refine mg_iload C rfl rfl ?_
    refine mg_iload_n C rfl rfl ?_
    refine mh_cVI (M' := qX12_isOpen) C rfl rfl aX12_isOpen iX12_isOpen sX12_isOpen hRm (by omega) (by decide) (by omega) (by omega) rfl rfl rfl (Nat.le_of_ble_eq_true rfl) rfl hf (fun hs => wX12_isOpen (by omega) (by omega) hs) (fun r3 c4 hf => ?_)
    refine mh_if_ne C rfl hf (fun e_70 hf => ?_) (fun e_70 hf => ?_)
    · refine mg_aload_n C rfl rfl ?_
      refine mh_gR C rfl rfl rfl (by decide) hf (fun x5 hf => ?_)
      refine mg_iload C rfl rfl ?_
      refine mh_aI C rfl hf (fun x6 hf => ?_)
      refine mg_iconst (v := 2) C rfl (by decide) ?_
      refine mh_icmp_ne C rfl hf (fun e_84 hf => ?_) (fun e_84 hf => ?_)
      · refine mg_iconst (v := 0) C rfl (by decide) ?_
        exact wX12_tellSoon_92 C hRm hd hn hk hw hk37 hk52 hf
      · refine mg_iconst (v := 1) C rfl (by decide) ?_
        refine mg_goto C rfl ?_
        exact wX12_tellSoon_92 C hRm hd hn hk hw hk37 hk52 hf
    · refine mg_goto C rfl ?_
      exact wX12_tellSoon_168 C hRm hd hn hk hw hk37 hk52 hf
def lX12_tellSoon_52 (N : Nat)  (k37 : Nat → Int32 → mm_C → mR Unit) : Nat → Nat → Int32 → Int32 → mm_C → mR Unit
  | 0, _, _, _, _ => none
  | m + 1, v0, v3, v4, c => bX12_tellSoon_52 N  k37 (lX12_tellSoon_52 N  k37 m) v0 v3 v4 c
theorem WX12_tellSoon_52 {Z : mm_Z} {X : mm_T} {k w mc ms d n N : Nat} {Q : mm_O → mm_H → Prop} (C : mm_Ok Z qX12_tellSoon X) (hRm : mt_R X = mm_rm d mc ms) (hd : 5 ≤ d) (hn : n + 1 < 1000000) (hk : k + 1 ≤ mc) (hw : w + 6 ≤ ms) {k37 : Nat → Int32 → mm_C → mR Unit} (hk37 : ∀ (v0 : Nat) (v3 : Int32) (c : mm_C), hO 0 ovU n (k37 v0 v3 c) Q → mG Z qX12_tellSoon X k w mc ms Q (37, [(0, .ref v0), (3, .int v3)], [], (n, c))) : ∀ (m : Nat) {v0 : Nat} {v3 : Int32} {v4 : Int32} {c : mm_C} (hf : hO 0 ovU n (lX12_tellSoon_52 N  k37 m v0 v3 v4 c) Q), mG Z qX12_tellSoon X k w mc ms Q (52, [(0, .ref v0), (3, .int v3), (4, .int v4)], [], (n, c)) := by
  intro m
  induction m with
  | zero => intro v0 v3 v4 c hf; exact absurd hf hO_none
  | succ m ih => intro v0 v3 v4 c hf; exact wX12_tellSoon_52 C hRm hd hn hk hw hk37 (fun v0 v3 v4 c hf => ih hf) hf
def bX12_tellSoon_37 (N : Nat)  (k37 : Nat → Int32 → mm_C → mR Unit) (v0 : Nat) (v3 : Int32) (c : mm_C) : mR Unit :=
  Option.bind (gR c v0 12 3) fun x1 => Option.bind (aI c x1 (0 : Int32)) fun x2 => if ((1 : Int32) <<< (x2 &&& 31)) ≤ v3 then (some (.inl (), c)) else (lX12_tellSoon_52 N  k37 N v0 v3 (0 : Int32) c)
set_option maxRecDepth 100000 in
theorem wX12_tellSoon_37 {Z : mm_Z} {X : mm_T} {k w mc ms d n N : Nat} {Q : mm_O → mm_H → Prop} (C : mm_Ok Z qX12_tellSoon X) (hRm : mt_R X = mm_rm d mc ms) (hd : 5 ≤ d) (hn : n + 1 < 1000000) (hk : k + 1 ≤ mc) (hw : w + 6 ≤ ms) {k37 : Nat → Int32 → mm_C → mR Unit} (hk37 : ∀ (v0 : Nat) (v3 : Int32) (c : mm_C), hO 0 ovU n (k37 v0 v3 c) Q → mG Z qX12_tellSoon X k w mc ms Q (37, [(0, .ref v0), (3, .int v3)], [], (n, c))) {v0 : Nat} {v3 : Int32} {c : mm_C} (hf : hO 0 ovU n (bX12_tellSoon_37 N  k37 v0 v3 c) Q) : mG Z qX12_tellSoon X k w mc ms Q (37, [(0, .ref v0), (3, .int v3)], [], (n, c)) := by
  unfold bX12_tellSoon_37 at hf
  refine mg_iload_n C rfl rfl ?_
  refine mg_iconst (v := 1) C rfl (by decide) ?_
  refine mg_aload_n C rfl rfl ?_
  refine mh_gR C rfl rfl rfl (by decide) hf (fun x1 hf => ?_)
  refine mg_iconst (v := 0) C rfl (by decide) ?_
  refine mh_aI C rfl hf (fun x2 hf => ?_)
  refine mg_ishl C rfl ?_
  refine mh_icmp_ge C rfl hf (fun e_46 hf => ?_) (fun e_46 hf => ?_)
  · exact mh_return C rfl (by omega) (by omega) rfl hf
  · refine mg_iconst (v := 0) C rfl (by decide) ?_
    refine mg_istore (lv' := [(0, .ref v0), (3, .int v3), (4, .int (0 : Int32))]) C rfl (Nat.le_of_ble_eq_true rfl) rfl ?_
    exact WX12_tellSoon_52 C hRm hd hn hk hw hk37 N hf
def lX12_tellSoon_37 (N : Nat)  : Nat → Nat → Int32 → mm_C → mR Unit
  | 0, _, _, _ => none
  | m + 1, v0, v3, c => bX12_tellSoon_37 N  (lX12_tellSoon_37 N  m) v0 v3 c
theorem WX12_tellSoon_37 {Z : mm_Z} {X : mm_T} {k w mc ms d n N : Nat} {Q : mm_O → mm_H → Prop} (C : mm_Ok Z qX12_tellSoon X) (hRm : mt_R X = mm_rm d mc ms) (hd : 5 ≤ d) (hn : n + 1 < 1000000) (hk : k + 1 ≤ mc) (hw : w + 6 ≤ ms) : ∀ (m : Nat) {v0 : Nat} {v3 : Int32} {c : mm_C} (hf : hO 0 ovU n (lX12_tellSoon_37 N  m v0 v3 c) Q), mG Z qX12_tellSoon X k w mc ms Q (37, [(0, .ref v0), (3, .int v3)], [], (n, c)) := by
  intro m
  induction m with
  | zero => intro v0 v3 c hf; exact absurd hf hO_none
  | succ m ih => intro v0 v3 c hf; exact wX12_tellSoon_37 C hRm hd hn hk hw (fun v0 v3 c hf => ih hf) hf
def bX12_tellSoon_28 (N : Nat)  (v0 : Nat) (v1 : Int32) (v2 : Int32) (c : mm_C) : mR Unit :=
  Option.bind (gR c v0 12 41) fun x1 => Option.bind (tI c x1 v2 v1) fun c2 => lX12_tellSoon_37 N  N v0 (0 : Int32) c2
set_option maxRecDepth 100000 in
theorem wX12_tellSoon_28 {Z : mm_Z} {X : mm_T} {k w mc ms d n N : Nat} {Q : mm_O → mm_H → Prop} (C : mm_Ok Z qX12_tellSoon X) (hRm : mt_R X = mm_rm d mc ms) (hd : 5 ≤ d) (hn : n + 1 < 1000000) (hk : k + 1 ≤ mc) (hw : w + 6 ≤ ms) {v0 : Nat} {v1 : Int32} {v2 : Int32} {c : mm_C} (hf : hO 0 ovU n (bX12_tellSoon_28 N  v0 v1 v2 c) Q) : mG Z qX12_tellSoon X k w mc ms Q (28, [(0, .ref v0), (1, .int v1), (2, .int v2)], [], (n, c)) := by
  unfold bX12_tellSoon_28 at hf
  refine mg_aload_n C rfl rfl ?_
  refine mh_gR C rfl rfl rfl (by decide) hf (fun x1 hf => ?_)
  refine mg_iload_n C rfl rfl ?_
  refine mg_iload_n C rfl rfl ?_
  refine mh_tI C rfl hf (fun c2 hf => ?_)
  refine mg_iconst (v := 0) C rfl (by decide) ?_
  refine mg_istore_n (lv' := [(0, .ref v0), (1, .int v1), (2, .int v2), (3, .int (0 : Int32))]) C rfl (Nat.le_of_ble_eq_true rfl) rfl ?_
  refine mg_sub (lv' := [(0, .ref v0), (3, .int (0 : Int32))]) (by simp) ?_
  exact WX12_tellSoon_37 C hRm hd hn hk hw N hf
def bX12_tellSoon_2 (N : Nat)  (k2 : Nat → Int32 → Int32 → Int32 → mm_C → mR Unit) (v0 : Nat) (v1 : Int32) (v2 : Int32) (v3 : Int32) (c : mm_C) : mR Unit :=
  Option.bind (gR c v0 12 3) fun x1 => Option.bind (aI c x1 (0 : Int32)) fun x2 => if ((2 : Int32) <<< (x2 &&& 31)) ≤ v3 then (bX12_tellSoon_28 N  v0 v1 v2 c) else (Option.bind (gR c v0 12 41) fun x3 => Option.bind (tI c x3 v3 (100000 : Int32)) fun c4 => k2 v0 v1 v2 (v3 + 1) c4)
set_option maxRecDepth 100000 in
theorem wX12_tellSoon_2 {Z : mm_Z} {X : mm_T} {k w mc ms d n N : Nat} {Q : mm_O → mm_H → Prop} (C : mm_Ok Z qX12_tellSoon X) (hRm : mt_R X = mm_rm d mc ms) (hd : 5 ≤ d) (hn : n + 1 < 1000000) (hk : k + 1 ≤ mc) (hw : w + 6 ≤ ms) {k2 : Nat → Int32 → Int32 → Int32 → mm_C → mR Unit} (hk2 : ∀ (v0 : Nat) (v1 : Int32) (v2 : Int32) (v3 : Int32) (c : mm_C), hO 0 ovU n (k2 v0 v1 v2 v3 c) Q → mG Z qX12_tellSoon X k w mc ms Q (2, [(0, .ref v0), (1, .int v1), (2, .int v2), (3, .int v3)], [], (n, c))) {v0 : Nat} {v1 : Int32} {v2 : Int32} {v3 : Int32} {c : mm_C} (hf : hO 0 ovU n (bX12_tellSoon_2 N  k2 v0 v1 v2 v3 c) Q) : mG Z qX12_tellSoon X k w mc ms Q (2, [(0, .ref v0), (1, .int v1), (2, .int v2), (3, .int v3)], [], (n, c)) := by
  unfold bX12_tellSoon_2 at hf
  refine mg_iload_n C rfl rfl ?_
  refine mg_iconst (v := 2) C rfl (by decide) ?_
  refine mg_aload_n C rfl rfl ?_
  refine mh_gR C rfl rfl rfl (by decide) hf (fun x1 hf => ?_)
  refine mg_iconst (v := 0) C rfl (by decide) ?_
  refine mh_aI C rfl hf (fun x2 hf => ?_)
  refine mg_ishl C rfl ?_
  refine mh_icmp_ge C rfl hf (fun e_11 hf => ?_) (fun e_11 hf => ?_)
  · refine mg_sub (lv' := [(0, .ref v0), (1, .int v1), (2, .int v2)]) (by simp) ?_
    exact wX12_tellSoon_28 C hRm hd hn hk hw hf
  · refine mg_aload_n C rfl rfl ?_
    refine mh_gR C rfl rfl rfl (by decide) hf (fun x3 hf => ?_)
    refine mg_iload_n C rfl rfl ?_
    refine mg_ldc C rfl rfl ?_
    refine mh_tI C rfl hf (fun c4 hf => ?_)
    refine mg_iinc (lv' := [(0, .ref v0), (1, .int v1), (2, .int v2), (3, .int (v3 + 1))]) C rfl (Nat.le_of_ble_eq_true rfl) rfl (show _ + Int32.ofInt 1 = _ + 1 by congr 1) rfl ?_
    refine mg_goto C rfl ?_
    exact hk2 _ _ _ _ _ hf
def lX12_tellSoon_2 (N : Nat)  : Nat → Nat → Int32 → Int32 → Int32 → mm_C → mR Unit
  | 0, _, _, _, _, _ => none
  | m + 1, v0, v1, v2, v3, c => bX12_tellSoon_2 N  (lX12_tellSoon_2 N  m) v0 v1 v2 v3 c
theorem WX12_tellSoon_2 {Z : mm_Z} {X : mm_T} {k w mc ms d n N : Nat} {Q : mm_O → mm_H → Prop} (C : mm_Ok Z qX12_tellSoon X) (hRm : mt_R X = mm_rm d mc ms) (hd : 5 ≤ d) (hn : n + 1 < 1000000) (hk : k + 1 ≤ mc) (hw : w + 6 ≤ ms) : ∀ (m : Nat) {v0 : Nat} {v1 : Int32} {v2 : Int32} {v3 : Int32} {c : mm_C} (hf : hO 0 ovU n (lX12_tellSoon_2 N  m v0 v1 v2 v3 c) Q), mG Z qX12_tellSoon X k w mc ms Q (2, [(0, .ref v0), (1, .int v1), (2, .int v2), (3, .int v3)], [], (n, c)) := by
  intro m
  induction m with
  | zero => intro v0 v1 v2 v3 c hf; exact absurd hf hO_none
  | succ m ih => intro v0 v1 v2 v3 c hf; exact wX12_tellSoon_2 C hRm hd hn hk hw (fun v0 v1 v2 v3 c hf => ih hf) hf
def bX12_tellSoon_0 (N : Nat)  (v0 : Nat) (v1 : Int32) (v2 : Int32) (c : mm_C) : mR Unit :=
  lX12_tellSoon_2 N  N v0 v1 v2 (0 : Int32) c
set_option maxRecDepth 100000 in
theorem wX12_tellSoon_0 {Z : mm_Z} {X : mm_T} {k w mc ms d n N : Nat} {Q : mm_O → mm_H → Prop} (C : mm_Ok Z qX12_tellSoon X) (hRm : mt_R X = mm_rm d mc ms) (hd : 5 ≤ d) (hn : n + 1 < 1000000) (hk : k + 1 ≤ mc) (hw : w + 6 ≤ ms) {v0 : Nat} {v1 : Int32} {v2 : Int32} {c : mm_C} (hf : hO 0 ovU n (bX12_tellSoon_0 N  v0 v1 v2 c) Q) : mG Z qX12_tellSoon X k w mc ms Q (0, [(0, .ref v0), (1, .int v1), (2, .int v2)], [], (n, c)) := by
  unfold bX12_tellSoon_0 at hf
  refine mg_iconst (v := 0) C rfl (by decide) ?_
  refine mg_istore_n (lv' := [(0, .ref v0), (1, .int v1), (2, .int v2), (3, .int (0 : Int32))]) C rfl (Nat.le_of_ble_eq_true rfl) rfl ?_
  exact WX12_tellSoon_2 C hRm hd hn hk hw N hf
def fX12_tellSoon (N : Nat) (v0 : Nat) (v1 : Int32) (v2 : Int32) (c : mm_C) : mR Unit := bX12_tellSoon_0 N v0 v1 v2 c
set_option maxRecDepth 100000 in
theorem wX12_tellSoon {Z : mm_Z} {d n N : Nat} (hd : 5 ≤ d) (hn : n + 1 < 1000000) {v0 : Nat} {v1 : Int32} {v2 : Int32} {c : mm_C} (hs : (fX12_tellSoon N v0 v1 v2 c).isSome = true) : mC Z qX12_tellSoon d 1 6 [.ref v0, .int v1, .int v2] (n, c) (mP 0 ovU n (fX12_tellSoon N v0 v1 v2 c)) := by
  refine mC_of gX12_tellSoon (by decide +kernel) (Nat.le_of_ble_eq_true rfl) fun X C hRm => ?_
  have hf := hO_mP 0 ovU n hs
  have hk : 0 + 1 ≤ 1 := Nat.le_of_ble_eq_true rfl
  have hw : 0 + 6 ≤ 6 := Nat.le_of_ble_eq_true rfl
  show mG _ _ _ _ _ _ _ _ (0, [(0, .ref v0), (1, .int v1), (2, .int v2)], [], (n, c))
  exact wX12_tellSoon_0 C hRm hd hn hk hw hf
def bX12_soonOf_0 (N : Nat)  (v0 : Nat) (v1 : Int32) (c : mm_C) : mR Int32 :=
  Option.bind (gR c v0 12 41) fun x1 => Option.bind (aI c x1 ((2 : Int32) * v1)) fun x2 => Option.bind (gR c v0 12 41) fun x3 => Option.bind (aI c x3 (((2 : Int32) * v1) + (1 : Int32))) fun x4 => some (.inl (mnI x2 x4), c)
set_option maxRecDepth 100000 in
theorem wX12_soonOf_0 {Z : mm_Z} {X : mm_T} {k w mc ms d n N : Nat} {Q : mm_O → mm_H → Prop} (C : mm_Ok Z qX12_soonOf X) (hRm : mt_R X = mm_rm d mc ms) (hd : 1 ≤ d) (hn : n + 1 < 1000000) (hk : k + 1 ≤ mc) (hw : w + 6 ≤ ms) {v0 : Nat} {v1 : Int32} {c : mm_C} (hf : hO 0 ovI n (bX12_soonOf_0 N  v0 v1 c) Q) : mG Z qX12_soonOf X k w mc ms Q (0, [(0, .ref v0), (1, .int v1)], [], (n, c)) := by
  unfold bX12_soonOf_0 at hf
  refine mg_aload_n C rfl rfl ?_
  refine mh_gR C rfl rfl rfl (by decide) hf (fun x1 hf => ?_)
  refine mg_iconst (v := 2) C rfl (by decide) ?_
  refine mg_iload_n C rfl rfl ?_
  refine mg_imul C rfl ?_
  refine mh_aI C rfl hf (fun x2 hf => ?_)
  refine mg_aload_n C rfl rfl ?_
  refine mh_gR C rfl rfl rfl (by decide) hf (fun x3 hf => ?_)
  refine mg_iconst (v := 2) C rfl (by decide) ?_
  refine mg_iload_n C rfl rfl ?_
  refine mg_imul C rfl ?_
  refine mg_iconst (v := 1) C rfl (by decide) ?_
  refine mg_iadd C rfl ?_
  refine mh_aI C rfl hf (fun x4 hf => ?_)
  refine mh_mnI C rfl rfl hRm (by omega) (Nat.le_of_ble_eq_true rfl) ?_
  exact mh_ireturn C rfl (by omega) (by omega) rfl hf
def fX12_soonOf (N : Nat) (v0 : Nat) (v1 : Int32) (c : mm_C) : mR Int32 := bX12_soonOf_0 N v0 v1 c
set_option maxRecDepth 100000 in
theorem wX12_soonOf {Z : mm_Z} {d n N : Nat} (hd : 1 ≤ d) (hn : n + 1 < 1000000) {v0 : Nat} {v1 : Int32} {c : mm_C} (hs : (fX12_soonOf N v0 v1 c).isSome = true) : mC Z qX12_soonOf d 1 6 [.ref v0, .int v1] (n, c) (mP 0 ovI n (fX12_soonOf N v0 v1 c)) := by
  refine mC_of gX12_soonOf (by decide +kernel) (Nat.le_of_ble_eq_true rfl) fun X C hRm => ?_
  have hf := hO_mP 0 ovI n hs
  have hk : 0 + 1 ≤ 1 := Nat.le_of_ble_eq_true rfl
  have hw : 0 + 6 ≤ 6 := Nat.le_of_ble_eq_true rfl
  show mG _ _ _ _ _ _ _ _ (0, [(0, .ref v0), (1, .int v1)], [], (n, c))
  exact wX12_soonOf_0 C hRm hd hn hk hw hf
def bX12_all_0 (N : Nat)  (v0 : Nat) (c : mm_C) : mR Int32 :=
  Option.bind (gR c v0 12 3) fun x1 => Option.bind (aI c x1 (0 : Int32)) fun x2 => some (.inl (((1 : Int32) <<< (x2 &&& 31)) - (1 : Int32)), c)
set_option maxRecDepth 100000 in
theorem wX12_all_0 {Z : mm_Z} {X : mm_T} {k w mc ms d n N : Nat} {Q : mm_O → mm_H → Prop} (C : mm_Ok Z qX12_all X) (hRm : mt_R X = mm_rm d mc ms) (hd : 1 ≤ d) (hn : n + 1 < 1000000) (hk : k + 1 ≤ mc) (hw : w + 6 ≤ ms) {v0 : Nat} {c : mm_C} (hf : hO 0 ovI n (bX12_all_0 N  v0 c) Q) : mG Z qX12_all X k w mc ms Q (0, [(0, .ref v0)], [], (n, c)) := by
  unfold bX12_all_0 at hf
  refine mg_iconst (v := 1) C rfl (by decide) ?_
  refine mg_aload_n C rfl rfl ?_
  refine mh_gR C rfl rfl rfl (by decide) hf (fun x1 hf => ?_)
  refine mg_iconst (v := 0) C rfl (by decide) ?_
  refine mh_aI C rfl hf (fun x2 hf => ?_)
  refine mg_ishl C rfl ?_
  refine mg_iconst (v := 1) C rfl (by decide) ?_
  refine mg_isub C rfl ?_
  exact mh_ireturn C rfl (by omega) (by omega) rfl hf
def fX12_all (N : Nat) (v0 : Nat) (c : mm_C) : mR Int32 := bX12_all_0 N v0 c
set_option maxRecDepth 100000 in
theorem wX12_all {Z : mm_Z} {d n N : Nat} (hd : 1 ≤ d) (hn : n + 1 < 1000000) {v0 : Nat} {c : mm_C} (hs : (fX12_all N v0 c).isSome = true) : mC Z qX12_all d 1 6 [.ref v0] (n, c) (mP 0 ovI n (fX12_all N v0 c)) := by
  refine mC_of gX12_all (by decide +kernel) (Nat.le_of_ble_eq_true rfl) fun X C hRm => ?_
  have hf := hO_mP 0 ovI n hs
  have hk : 0 + 1 ≤ 1 := Nat.le_of_ble_eq_true rfl
  have hw : 0 + 6 ≤ 6 := Nat.le_of_ble_eq_true rfl
  show mG _ _ _ _ _ _ _ _ (0, [(0, .ref v0)], [], (n, c))
  exact wX12_all_0 C hRm hd hn hk hw hf
def bX12_tellNow_0 (N : Nat)  (v0 : Nat) (v1 : Int32) (c : mm_C) : mR Unit :=
  Option.bind (gR c v0 12 26) fun x1 => Option.bind (aI c x1 (2 : Int32)) fun x2 => Option.bind (pI c v0 12 42 (v1 &&& (x2 ^^^ (-1 : Int32)))) fun c3 => Option.bind (pI c3 v0 12 43 (0 : Int32)) fun c4 => Option.bind (gR c4 v0 12 26) fun x5 => Option.bind (aI c4 x5 (0 : Int32)) fun x6 => Option.bind (gR c4 v0 12 26) fun x7 => Option.bind (aI c4 x7 (1 : Int32)) fun x8 => cV 12 v0 c4 (fX12_tellSoon N v0 x6 x8 c4) fun (_ : Unit) c9 => some (.inl (), c9)
set_option maxRecDepth 100000 in
theorem wX12_tellNow_0 {Z : mm_Z} {X : mm_T} {k w mc ms d n N : Nat} {Q : mm_O → mm_H → Prop} (C : mm_Ok Z qX12_tellNow X) (hRm : mt_R X = mm_rm d mc ms) (hd : 6 ≤ d) (hn : n + 1 < 1000000) (hk : k + 1 ≤ mc) (hw : w + 6 ≤ ms) {v0 : Nat} {v1 : Int32} {c : mm_C} (hf : hO 0 ovU n (bX12_tellNow_0 N  v0 v1 c) Q) : mG Z qX12_tellNow X k w mc ms Q (0, [(0, .ref v0), (1, .int v1)], [], (n, c)) := by
  unfold bX12_tellNow_0 at hf
  refine mg_aload_n C rfl rfl ?_
  refine mg_iload_n C rfl rfl ?_
  refine mg_aload_n C rfl rfl ?_
  refine mh_gR C rfl rfl rfl (by decide) hf (fun x1 hf => ?_)
  refine mg_iconst (v := 2) C rfl (by decide) ?_
  refine mh_aI C rfl hf (fun x2 hf => ?_)
  refine mg_iconst (v := (-1)) C rfl (by decide) ?_
  refine mg_ixor C rfl ?_
  refine mg_iand C rfl ?_
  refine mh_pI C rfl rfl rfl (by decide) rfl rfl rfl hf (fun c3 hf => ?_)
  refine mg_aload_n C rfl rfl ?_
  refine mg_iconst (v := 0) C rfl (by decide) ?_
  refine mh_pI C rfl rfl rfl (by decide) rfl rfl rfl hf (fun c4 hf => ?_)
  refine mg_aload_n C rfl rfl ?_
  refine mg_aload_n C rfl rfl ?_
  refine mh_gR C rfl rfl rfl (by decide) hf (fun x5 hf => ?_)
  refine mg_iconst (v := 0) C rfl (by decide) ?_
  refine mh_aI C rfl hf (fun x6 hf => ?_)
  refine mg_aload_n C rfl rfl ?_
  refine mh_gR C rfl rfl rfl (by decide) hf (fun x7 hf => ?_)
  refine mg_iconst (v := 1) C rfl (by decide) ?_
  refine mh_aI C rfl hf (fun x8 hf => ?_)
  refine mh_cVU (M' := qX12_tellSoon) C rfl rfl aX12_tellSoon iX12_tellSoon sX12_tellSoon hRm (by omega) (by decide) (by omega) (by omega) rfl rfl rfl (Nat.le_of_ble_eq_true rfl) rfl hf (fun hs => wX12_tellSoon (by omega) (by omega) hs) (fun c9 hf => ?_)
  exact mh_return C rfl (by omega) (by omega) rfl hf
def fX12_tellNow (N : Nat) (v0 : Nat) (v1 : Int32) (c : mm_C) : mR Unit := bX12_tellNow_0 N v0 v1 c
set_option maxRecDepth 100000 in
theorem wX12_tellNow {Z : mm_Z} {d n N : Nat} (hd : 6 ≤ d) (hn : n + 1 < 1000000) {v0 : Nat} {v1 : Int32} {c : mm_C} (hs : (fX12_tellNow N v0 v1 c).isSome = true) : mC Z qX12_tellNow d 1 6 [.ref v0, .int v1] (n, c) (mP 0 ovU n (fX12_tellNow N v0 v1 c)) := by
  refine mC_of gX12_tellNow (by decide +kernel) (Nat.le_of_ble_eq_true rfl) fun X C hRm => ?_
  have hf := hO_mP 0 ovU n hs
  have hk : 0 + 1 ≤ 1 := Nat.le_of_ble_eq_true rfl
  have hw : 0 + 6 ≤ 6 := Nat.le_of_ble_eq_true rfl
  show mG _ _ _ _ _ _ _ _ (0, [(0, .ref v0), (1, .int v1)], [], (n, c))
  exact wX12_tellNow_0 C hRm hd hn hk hw hf
def bX12_mostSet_68 (N : Nat)  (v1 : Int32) (c : mm_C) : mR Int32 :=
  some (.inl v1, c)
set_option maxRecDepth 100000 in
theorem wX12_mostSet_68 {Z : mm_Z} {X : mm_T} {k w mc ms d n N : Nat} {Q : mm_O → mm_H → Prop} (C : mm_Ok Z qX12_mostSet X) (hRm : mt_R X = mm_rm d mc ms) (hd : 2 ≤ d) (hn : n + 1 < 1000000) (hk : k + 1 ≤ mc) (hw : w + 6 ≤ ms) {v1 : Int32} {c : mm_C} (hf : hO 0 ovI n (bX12_mostSet_68 N  v1 c) Q) : mG Z qX12_mostSet X k w mc ms Q (68, [(1, .int v1)], [], (n, c)) := by
  unfold bX12_mostSet_68 at hf
  refine mg_iload_n C rfl rfl ?_
  exact mh_ireturn C rfl (by omega) (by omega) rfl hf
def bX12_mostSet_62 (N : Nat)  (k4 : Nat → Int32 → Int32 → mm_C → mR Int32) (v0 : Nat) (v1 : Int32) (v2 : Int32) (c : mm_C) : mR Int32 :=
  k4 v0 v1 (v2 + 1) c
set_option maxRecDepth 100000 in
theorem wX12_mostSet_62 {Z : mm_Z} {X : mm_T} {k w mc ms d n N : Nat} {Q : mm_O → mm_H → Prop} (C : mm_Ok Z qX12_mostSet X) (hRm : mt_R X = mm_rm d mc ms) (hd : 2 ≤ d) (hn : n + 1 < 1000000) (hk : k + 1 ≤ mc) (hw : w + 6 ≤ ms) {k4 : Nat → Int32 → Int32 → mm_C → mR Int32} (hk4 : ∀ (v0 : Nat) (v1 : Int32) (v2 : Int32) (c : mm_C), hO 0 ovI n (k4 v0 v1 v2 c) Q → mG Z qX12_mostSet X k w mc ms Q (4, [(0, .ref v0), (1, .int v1), (2, .int v2)], [], (n, c))) {v0 : Nat} {v1 : Int32} {v2 : Int32} {c : mm_C} (hf : hO 0 ovI n (bX12_mostSet_62 N  k4 v0 v1 v2 c) Q) : mG Z qX12_mostSet X k w mc ms Q (62, [(0, .ref v0), (1, .int v1), (2, .int v2)], [], (n, c)) := by
  unfold bX12_mostSet_62 at hf
  refine mg_iinc (lv' := [(0, .ref v0), (1, .int v1), (2, .int (v2 + 1))]) C rfl (Nat.le_of_ble_eq_true rfl) rfl (show _ + Int32.ofInt 1 = _ + 1 by congr 1) rfl ?_
  refine mg_goto C rfl ?_
  exact hk4 _ _ _ _ hf
def bX12_mostSet_60 (N : Nat)  (k4 : Nat → Int32 → Int32 → mm_C → mR Int32) (v0 : Nat) (v2 : Int32) (c : mm_C) : mR Int32 :=
  bX12_mostSet_62 N  k4 v0 v2 v2 c
set_option maxRecDepth 100000 in
theorem wX12_mostSet_60 {Z : mm_Z} {X : mm_T} {k w mc ms d n N : Nat} {Q : mm_O → mm_H → Prop} (C : mm_Ok Z qX12_mostSet X) (hRm : mt_R X = mm_rm d mc ms) (hd : 2 ≤ d) (hn : n + 1 < 1000000) (hk : k + 1 ≤ mc) (hw : w + 6 ≤ ms) {k4 : Nat → Int32 → Int32 → mm_C → mR Int32} (hk4 : ∀ (v0 : Nat) (v1 : Int32) (v2 : Int32) (c : mm_C), hO 0 ovI n (k4 v0 v1 v2 c) Q → mG Z qX12_mostSet X k w mc ms Q (4, [(0, .ref v0), (1, .int v1), (2, .int v2)], [], (n, c))) {v0 : Nat} {v2 : Int32} {c : mm_C} (hf : hO 0 ovI n (bX12_mostSet_60 N  k4 v0 v2 c) Q) : mG Z qX12_mostSet X k w mc ms Q (60, [(0, .ref v0), (2, .int v2)], [], (n, c)) := by
  unfold bX12_mostSet_60 at hf
  refine mg_iload_n C rfl rfl ?_
  refine mg_istore_n (lv' := [(0, .ref v0), (1, .int v2), (2, .int v2)]) C rfl (Nat.le_of_ble_eq_true rfl) rfl ?_
  exact wX12_mostSet_62 C hRm hd hn hk hw hk4 hf
def bX12_mostSet_4 (N : Nat)  (k4 : Nat → Int32 → Int32 → mm_C → mR Int32) (v0 : Nat) (v1 : Int32) (v2 : Int32) (c : mm_C) : mR Int32 :=
  cV 12 v0 c (fX12_all N v0 c) fun r1 c2 => if r1 < v2 then (bX12_mostSet_68 N  v1 c2) else (cV 12 v0 c2 (fX12_soonOf N v0 v2 c2) fun r3 c4 => if r3 < (100000 : Int32) then (cS (fX12_bitsOf N v2 c4) fun r5 c6 => cS (fX12_bitsOf N v1 c6) fun r7 c8 => if r7 < r5 then (bX12_mostSet_60 N  k4 v0 v2 c8) else (cS (fX12_bitsOf N v2 c8) fun r9 c10 => cS (fX12_bitsOf N v1 c10) fun r11 c12 => if ¬ r9 = r11 then (bX12_mostSet_62 N  k4 v0 v1 v2 c12) else (cV 12 v0 c12 (fX12_soonOf N v0 v2 c12) fun r13 c14 => cV 12 v0 c14 (fX12_soonOf N v0 v1 c14) fun r15 c16 => if r15 ≤ r13 then (bX12_mostSet_62 N  k4 v0 v1 v2 c16) else (bX12_mostSet_60 N  k4 v0 v2 c16)))) else (bX12_mostSet_62 N  k4 v0 v1 v2 c4))
set_option maxRecDepth 100000 in
theorem wX12_mostSet_4 {Z : mm_Z} {X : mm_T} {k w mc ms d n N : Nat} {Q : mm_O → mm_H → Prop} (C : mm_Ok Z qX12_mostSet X) (hRm : mt_R X = mm_rm d mc ms) (hd : 2 ≤ d) (hn : n + 1 < 1000000) (hk : k + 1 ≤ mc) (hw : w + 6 ≤ ms) {k4 : Nat → Int32 → Int32 → mm_C → mR Int32} (hk4 : ∀ (v0 : Nat) (v1 : Int32) (v2 : Int32) (c : mm_C), hO 0 ovI n (k4 v0 v1 v2 c) Q → mG Z qX12_mostSet X k w mc ms Q (4, [(0, .ref v0), (1, .int v1), (2, .int v2)], [], (n, c))) {v0 : Nat} {v1 : Int32} {v2 : Int32} {c : mm_C} (hf : hO 0 ovI n (bX12_mostSet_4 N  k4 v0 v1 v2 c) Q) : mG Z qX12_mostSet X k w mc ms Q (4, [(0, .ref v0), (1, .int v1), (2, .int v2)], [], (n, c)) := by
  unfold bX12_mostSet_4 at hf
  refine mg_iload_n C rfl rfl ?_
  refine mg_aload_n C rfl rfl ?_
  refine mh_cVI (M' := qX12_all) C rfl rfl aX12_all iX12_all sX12_all hRm (by omega) (by decide) (by omega) (by omega) rfl rfl rfl (Nat.le_of_ble_eq_true rfl) rfl hf (fun hs => wX12_all (by omega) (by omega) hs) (fun r1 c2 hf => ?_)
  refine mh_icmp_gt C rfl hf (fun e_9 hf => ?_) (fun e_9 hf => ?_)
  · refine mg_sub (lv' := [(1, .int v1)]) (by simp) ?_
    exact wX12_mostSet_68 C hRm hd hn hk hw hf
  · refine mg_aload_n C rfl rfl ?_
    refine mg_iload_n C rfl rfl ?_
    refine mh_cVI (M' := qX12_soonOf) C rfl rfl aX12_soonOf iX12_soonOf sX12_soonOf hRm (by omega) (by decide) (by omega) (by omega) rfl rfl rfl (Nat.le_of_ble_eq_true rfl) rfl hf (fun hs => wX12_soonOf (by omega) (by omega) hs) (fun r3 c4 hf => ?_)
    refine mg_ldc C rfl rfl ?_
    refine mh_icmp_lt C rfl hf (fun e_19 hf => ?_) (fun e_19 hf => ?_)
    · refine mg_iload_n C rfl rfl ?_
      refine mh_cSI (M' := qX12_bitsOf) C rfl rfl aX12_bitsOf tX12_bitsOf hRm (by omega) (by decide) (by omega) (by omega) rfl rfl (Nat.le_of_ble_eq_true rfl) rfl hf (fun hs => wX12_bitsOf (by omega) (by omega) hs) (fun r5 c6 hf => ?_)
      refine mg_iload_n C rfl rfl ?_
      refine mh_cSI (M' := qX12_bitsOf) C rfl rfl aX12_bitsOf tX12_bitsOf hRm (by omega) (by decide) (by omega) (by omega) rfl rfl (Nat.le_of_ble_eq_true rfl) rfl hf (fun hs => wX12_bitsOf (by omega) (by omega) hs) (fun r7 c8 hf => ?_)
      refine mh_icmp_gt C rfl hf (fun e_33 hf => ?_) (fun e_33 hf => ?_)
      · refine mg_sub (lv' := [(0, .ref v0), (2, .int v2)]) (by simp) ?_
        exact wX12_mostSet_60 C hRm hd hn hk hw hk4 hf
      · refine mg_iload_n C rfl rfl ?_
        refine mh_cSI (M' := qX12_bitsOf) C rfl rfl aX12_bitsOf tX12_bitsOf hRm (by omega) (by decide) (by omega) (by omega) rfl rfl (Nat.le_of_ble_eq_true rfl) rfl hf (fun hs => wX12_bitsOf (by omega) (by omega) hs) (fun r9 c10 hf => ?_)
        refine mg_iload_n C rfl rfl ?_
        refine mh_cSI (M' := qX12_bitsOf) C rfl rfl aX12_bitsOf tX12_bitsOf hRm (by omega) (by decide) (by omega) (by omega) rfl rfl (Nat.le_of_ble_eq_true rfl) rfl hf (fun hs => wX12_bitsOf (by omega) (by omega) hs) (fun r11 c12 hf => ?_)
        refine mh_icmp_ne C rfl hf (fun e_44 hf => ?_) (fun e_44 hf => ?_)
        · exact wX12_mostSet_62 C hRm hd hn hk hw hk4 hf
        · refine mg_aload_n C rfl rfl ?_
          refine mg_iload_n C rfl rfl ?_
          refine mh_cVI (M' := qX12_soonOf) C rfl rfl aX12_soonOf iX12_soonOf sX12_soonOf hRm (by omega) (by decide) (by omega) (by omega) rfl rfl rfl (Nat.le_of_ble_eq_true rfl) rfl hf (fun hs => wX12_soonOf (by omega) (by omega) hs) (fun r13 c14 hf => ?_)
          refine mg_aload_n C rfl rfl ?_
          refine mg_iload_n C rfl rfl ?_
          refine mh_cVI (M' := qX12_soonOf) C rfl rfl aX12_soonOf iX12_soonOf sX12_soonOf hRm (by omega) (by decide) (by omega) (by omega) rfl rfl rfl (Nat.le_of_ble_eq_true rfl) rfl hf (fun hs => wX12_soonOf (by omega) (by omega) hs) (fun r15 c16 hf => ?_)
          refine mh_icmp_ge C rfl hf (fun e_57 hf => ?_) (fun e_57 hf => ?_)
          · exact wX12_mostSet_62 C hRm hd hn hk hw hk4 hf
          · refine mg_sub (lv' := [(0, .ref v0), (2, .int v2)]) (by simp) ?_
            exact wX12_mostSet_60 C hRm hd hn hk hw hk4 hf
    · refine mg_goto C rfl ?_
      exact wX12_mostSet_62 C hRm hd hn hk hw hk4 hf
def lX12_mostSet_4 (N : Nat)  : Nat → Nat → Int32 → Int32 → mm_C → mR Int32
  | 0, _, _, _, _ => none
  | m + 1, v0, v1, v2, c => bX12_mostSet_4 N  (lX12_mostSet_4 N  m) v0 v1 v2 c
theorem WX12_mostSet_4 {Z : mm_Z} {X : mm_T} {k w mc ms d n N : Nat} {Q : mm_O → mm_H → Prop} (C : mm_Ok Z qX12_mostSet X) (hRm : mt_R X = mm_rm d mc ms) (hd : 2 ≤ d) (hn : n + 1 < 1000000) (hk : k + 1 ≤ mc) (hw : w + 6 ≤ ms) : ∀ (m : Nat) {v0 : Nat} {v1 : Int32} {v2 : Int32} {c : mm_C} (hf : hO 0 ovI n (lX12_mostSet_4 N  m v0 v1 v2 c) Q), mG Z qX12_mostSet X k w mc ms Q (4, [(0, .ref v0), (1, .int v1), (2, .int v2)], [], (n, c)) := by
  intro m
  induction m with
  | zero => intro v0 v1 v2 c hf; exact absurd hf hO_none
  | succ m ih => intro v0 v1 v2 c hf; exact wX12_mostSet_4 C hRm hd hn hk hw (fun v0 v1 v2 c hf => ih hf) hf
def bX12_mostSet_0 (N : Nat)  (v0 : Nat) (c : mm_C) : mR Int32 :=
  lX12_mostSet_4 N  N v0 (0 : Int32) (1 : Int32) c
set_option maxRecDepth 100000 in
theorem wX12_mostSet_0 {Z : mm_Z} {X : mm_T} {k w mc ms d n N : Nat} {Q : mm_O → mm_H → Prop} (C : mm_Ok Z qX12_mostSet X) (hRm : mt_R X = mm_rm d mc ms) (hd : 2 ≤ d) (hn : n + 1 < 1000000) (hk : k + 1 ≤ mc) (hw : w + 6 ≤ ms) {v0 : Nat} {c : mm_C} (hf : hO 0 ovI n (bX12_mostSet_0 N  v0 c) Q) : mG Z qX12_mostSet X k w mc ms Q (0, [(0, .ref v0)], [], (n, c)) := by
  unfold bX12_mostSet_0 at hf
  refine mg_iconst (v := 0) C rfl (by decide) ?_
  refine mg_istore_n (lv' := [(0, .ref v0), (1, .int (0 : Int32))]) C rfl (Nat.le_of_ble_eq_true rfl) rfl ?_
  refine mg_iconst (v := 1) C rfl (by decide) ?_
  refine mg_istore_n (lv' := [(0, .ref v0), (1, .int (0 : Int32)), (2, .int (1 : Int32))]) C rfl (Nat.le_of_ble_eq_true rfl) rfl ?_
  exact WX12_mostSet_4 C hRm hd hn hk hw N hf
def fX12_mostSet (N : Nat) (v0 : Nat) (c : mm_C) : mR Int32 := bX12_mostSet_0 N v0 c
set_option maxRecDepth 100000 in
theorem wX12_mostSet {Z : mm_Z} {d n N : Nat} (hd : 2 ≤ d) (hn : n + 1 < 1000000) {v0 : Nat} {c : mm_C} (hs : (fX12_mostSet N v0 c).isSome = true) : mC Z qX12_mostSet d 1 6 [.ref v0] (n, c) (mP 0 ovI n (fX12_mostSet N v0 c)) := by
  refine mC_of gX12_mostSet (by decide +kernel) (Nat.le_of_ble_eq_true rfl) fun X C hRm => ?_
  have hf := hO_mP 0 ovI n hs
  have hk : 0 + 1 ≤ 1 := Nat.le_of_ble_eq_true rfl
  have hw : 0 + 6 ≤ 6 := Nat.le_of_ble_eq_true rfl
  show mG _ _ _ _ _ _ _ _ (0, [(0, .ref v0)], [], (n, c))
  exact wX12_mostSet_0 C hRm hd hn hk hw hf
def bX12_mostOf_0 (N : Nat)  (v0 : Nat) (v1 : Int32) (c : mm_C) : mR Int32 :=
  cV 12 v0 c (fX12_tellNow N v0 v1 c) fun (_ : Unit) c1 => cV 12 v0 c1 (fX12_mostSet N v0 c1) fun r2 c3 => cS (fX12_bitsOf N r2 c3) fun r4 c5 => some (.inl r4, c5)
set_option maxRecDepth 100000 in
theorem wX12_mostOf_0 {Z : mm_Z} {X : mm_T} {k w mc ms d n N : Nat} {Q : mm_O → mm_H → Prop} (C : mm_Ok Z qX12_mostOf X) (hRm : mt_R X = mm_rm d mc ms) (hd : 7 ≤ d) (hn : n + 1 < 1000000) (hk : k + 1 ≤ mc) (hw : w + 6 ≤ ms) {v0 : Nat} {v1 : Int32} {c : mm_C} (hf : hO 0 ovI n (bX12_mostOf_0 N  v0 v1 c) Q) : mG Z qX12_mostOf X k w mc ms Q (0, [(0, .ref v0), (1, .int v1)], [], (n, c)) := by
  unfold bX12_mostOf_0 at hf
  refine mg_aload_n C rfl rfl ?_
  refine mg_iload_n C rfl rfl ?_
  refine mh_cVU (M' := qX12_tellNow) C rfl rfl aX12_tellNow iX12_tellNow sX12_tellNow hRm (by omega) (by decide) (by omega) (by omega) rfl rfl rfl (Nat.le_of_ble_eq_true rfl) rfl hf (fun hs => wX12_tellNow (by omega) (by omega) hs) (fun c1 hf => ?_)
  refine mg_aload_n C rfl rfl ?_
  refine mh_cVI (M' := qX12_mostSet) C rfl rfl aX12_mostSet iX12_mostSet sX12_mostSet hRm (by omega) (by decide) (by omega) (by omega) rfl rfl rfl (Nat.le_of_ble_eq_true rfl) rfl hf (fun hs => wX12_mostSet (by omega) (by omega) hs) (fun r2 c3 hf => ?_)
  refine mh_cSI (M' := qX12_bitsOf) C rfl rfl aX12_bitsOf tX12_bitsOf hRm (by omega) (by decide) (by omega) (by omega) rfl rfl (Nat.le_of_ble_eq_true rfl) rfl hf (fun hs => wX12_bitsOf (by omega) (by omega) hs) (fun r4 c5 hf => ?_)
  exact mh_ireturn C rfl (by omega) (by omega) rfl hf
def fX12_mostOf (N : Nat) (v0 : Nat) (v1 : Int32) (c : mm_C) : mR Int32 := bX12_mostOf_0 N v0 v1 c
set_option maxRecDepth 100000 in
theorem wX12_mostOf {Z : mm_Z} {d n N : Nat} (hd : 7 ≤ d) (hn : n + 1 < 1000000) {v0 : Nat} {v1 : Int32} {c : mm_C} (hs : (fX12_mostOf N v0 v1 c).isSome = true) : mC Z qX12_mostOf d 1 6 [.ref v0, .int v1] (n, c) (mP 0 ovI n (fX12_mostOf N v0 v1 c)) := by
  refine mC_of gX12_mostOf (by decide +kernel) (Nat.le_of_ble_eq_true rfl) fun X C hRm => ?_
  have hf := hO_mP 0 ovI n hs
  have hk : 0 + 1 ≤ 1 := Nat.le_of_ble_eq_true rfl
  have hw : 0 + 6 ≤ 6 := Nat.le_of_ble_eq_true rfl
  show mG _ _ _ _ _ _ _ _ (0, [(0, .ref v0), (1, .int v1)], [], (n, c))
  exact wX12_mostOf_0 C hRm hd hn hk hw hf
def bX12_most_0 (N : Nat)  (v0 : Nat) (v1 : Int32) (c : mm_C) : mR Int32 :=
  Option.bind (pI c v0 12 2 (0 : Int32)) fun c1 => cS (fX12_isIn N v1.toInt64 (0 : Int64) (2 : Int64) c1) fun r2 c3 => if ¬ r2 = 0 then (cV 12 v0 c3 (fX12_set N v0 c3) fun (_ : Unit) c4 => cV 12 v0 c4 (fX12_all N v0 c4) fun r5 c6 => cV 12 v0 c6 (fX12_tellNow N v0 r5 c6) fun (_ : Unit) c7 => cV 12 v0 c7 (fX12_mostSet N v0 c7) fun r8 c9 => if ¬ v1 = 0 then (if ¬ v1 = (1 : Int32) then (some (.inl r8, c9)) else (cV 12 v0 c9 (fX12_soonOf N v0 r8 c9) fun r10 c11 => some (.inl r10, c11))) else (cS (fX12_bitsOf N r8 c9) fun r12 c13 => some (.inl r12, c13))) else (cV 12 v0 c3 (fX12_fail N v0 (1 : Int32) c3) fun r14 c15 => some (.inl r14, c15))
set_option maxRecDepth 100000 in
theorem wX12_most_0 {Z : mm_Z} {X : mm_T} {k w mc ms d n N : Nat} {Q : mm_O → mm_H → Prop} (C : mm_Ok Z qX12_most X) (hRm : mt_R X = mm_rm d mc ms) (hd : 7 ≤ d) (hn : n + 1 < 1000000) (hk : k + 1 ≤ mc) (hw : w + 6 ≤ ms) {v0 : Nat} {v1 : Int32} {c : mm_C} (hf : hO 0 ovI n (bX12_most_0 N  v0 v1 c) Q) : mG Z qX12_most X k w mc ms Q (0, [(0, .ref v0), (1, .int v1)], [], (n, c)) := by
  unfold bX12_most_0 at hf
  refine mg_aload_n C rfl rfl ?_
  refine mg_iconst (v := 0) C rfl (by decide) ?_
  refine mh_pI C rfl rfl rfl (by decide) rfl rfl rfl hf (fun c1 hf => ?_)
  refine mg_iload_n C rfl rfl ?_
  refine mg_i2l C rfl ?_
  refine mg_lconst (v := 0) C rfl (by decide) ?_
  refine mg_ldc2_w C rfl rfl ?_
  refine mh_cSI (M' := qX12_isIn) C rfl rfl aX12_isIn tX12_isIn hRm (by omega) (by decide) (by omega) (by omega) rfl rfl (Nat.le_of_ble_eq_true rfl) rfl hf (fun hs => wX12_isIn (by omega) (by omega) hs) (fun r2 c3 hf => ?_)
  refine mh_if_ne C rfl hf (fun e_14 hf => ?_) (fun e_14 hf => ?_)
  · refine mg_aload_n C rfl rfl ?_
    refine mh_cVU (M' := qX12_set) C rfl rfl aX12_set iX12_set sX12_set hRm (by omega) (by decide) (by omega) (by omega) rfl rfl rfl (Nat.le_of_ble_eq_true rfl) rfl hf (fun hs => wX12_set (by omega) (by omega) hs) (fun c4 hf => ?_)
    refine mg_aload_n C rfl rfl ?_
    refine mg_aload_n C rfl rfl ?_
    refine mh_cVI (M' := qX12_all) C rfl rfl aX12_all iX12_all sX12_all hRm (by omega) (by decide) (by omega) (by omega) rfl rfl rfl (Nat.le_of_ble_eq_true rfl) rfl hf (fun hs => wX12_all (by omega) (by omega) hs) (fun r5 c6 hf => ?_)
    refine mh_cVU (M' := qX12_tellNow) C rfl rfl aX12_tellNow iX12_tellNow sX12_tellNow hRm (by omega) (by decide) (by omega) (by omega) rfl rfl rfl (Nat.le_of_ble_eq_true rfl) rfl hf (fun hs => wX12_tellNow (by omega) (by omega) hs) (fun c7 hf => ?_)
    refine mg_aload_n C rfl rfl ?_
    refine mh_cVI (M' := qX12_mostSet) C rfl rfl aX12_mostSet iX12_mostSet sX12_mostSet hRm (by omega) (by decide) (by omega) (by omega) rfl rfl rfl (Nat.le_of_ble_eq_true rfl) rfl hf (fun hs => wX12_mostSet (by omega) (by omega) hs) (fun r8 c9 hf => ?_)
    refine mg_istore_n (lv' := [(0, .ref v0), (1, .int v1), (2, .int r8)]) C rfl (Nat.le_of_ble_eq_true rfl) rfl ?_
    refine mg_iload_n C rfl rfl ?_
    refine mh_if_ne C rfl hf (fun e_41 hf => ?_) (fun e_41 hf => ?_)
    · refine mg_iload_n C rfl rfl ?_
      refine mg_iconst (v := 1) C rfl (by decide) ?_
      refine mh_icmp_ne C rfl hf (fun e_53 hf => ?_) (fun e_53 hf => ?_)
      · refine mg_iload_n C rfl rfl ?_
        exact mh_ireturn C rfl (by omega) (by omega) rfl hf
      · refine mg_aload_n C rfl rfl ?_
        refine mg_iload_n C rfl rfl ?_
        refine mh_cVI (M' := qX12_soonOf) C rfl rfl aX12_soonOf iX12_soonOf sX12_soonOf hRm (by omega) (by decide) (by omega) (by omega) rfl rfl rfl (Nat.le_of_ble_eq_true rfl) rfl hf (fun hs => wX12_soonOf (by omega) (by omega) hs) (fun r10 c11 hf => ?_)
        refine mg_goto C rfl ?_
        exact mh_ireturn C rfl (by omega) (by omega) rfl hf
    · refine mg_iload_n C rfl rfl ?_
      refine mh_cSI (M' := qX12_bitsOf) C rfl rfl aX12_bitsOf tX12_bitsOf hRm (by omega) (by decide) (by omega) (by omega) rfl rfl (Nat.le_of_ble_eq_true rfl) rfl hf (fun hs => wX12_bitsOf (by omega) (by omega) hs) (fun r12 c13 hf => ?_)
      refine mg_goto C rfl ?_
      exact mh_ireturn C rfl (by omega) (by omega) rfl hf
  · refine mg_aload_n C rfl rfl ?_
    refine mg_iconst (v := 1) C rfl (by decide) ?_
    refine mh_cVI (M' := qX12_fail) C rfl rfl aX12_fail iX12_fail sX12_fail hRm (by omega) (by decide) (by omega) (by omega) rfl rfl rfl (Nat.le_of_ble_eq_true rfl) rfl hf (fun hs => wX12_fail (by omega) (by omega) hs) (fun r14 c15 hf => ?_)
    exact mh_ireturn C rfl (by omega) (by omega) rfl hf
def fX12_most (N : Nat) (v0 : Nat) (v1 : Int32) (c : mm_C) : mR Int32 := bX12_most_0 N v0 v1 c
set_option maxRecDepth 100000 in
theorem wX12_most {Z : mm_Z} {d n N : Nat} (hd : 7 ≤ d) (hn : n + 1 < 1000000) {v0 : Nat} {v1 : Int32} {c : mm_C} (hs : (fX12_most N v0 v1 c).isSome = true) : mC Z qX12_most d 1 6 [.ref v0, .int v1] (n, c) (mP 0 ovI n (fX12_most N v0 v1 c)) := by
  refine mC_of gX12_most (by decide +kernel) (Nat.le_of_ble_eq_true rfl) fun X C hRm => ?_
  have hf := hO_mP 0 ovI n hs
  have hk : 0 + 1 ≤ 1 := Nat.le_of_ble_eq_true rfl
  have hw : 0 + 6 ≤ 6 := Nat.le_of_ble_eq_true rfl
  show mG _ _ _ _ _ _ _ _ (0, [(0, .ref v0), (1, .int v1)], [], (n, c))
  exact wX12_most_0 C hRm hd hn hk hw hf
def bX12_endsBy_140 (N : Nat) (eE : Nat → Int32 → Int32 → Int32 → Int32 → Int32 → Int32 → mm_C → mR Int32)  (k20 : Nat → Int32 → Int32 → Int32 → Int32 → Int32 → Int32 → Int32 → mm_C → mR Int32) (v0 : Nat) (v1 : Int32) (v2 : Int32) (v3 : Int32) (v4 : Int32) (v5 : Int32) (v6 : Int32) (v7 : Int32) (c : mm_C) : mR Int32 :=
  k20 v0 v1 v2 v3 v4 v5 v6 (v7 + 1) c
set_option maxRecDepth 100000 in
theorem wX12_endsBy_140 {Z : mm_Z} {X : mm_T} {k w mc ms d n N : Nat} {Q : mm_O → mm_H → Prop} {eE : Nat → Int32 → Int32 → Int32 → Int32 → Int32 → Int32 → mm_C → mR Int32} {dE : Nat} (hE : hE_X12_endsBy Z dE eE) (C : mm_Ok Z qX12_endsBy X) (hRm : mt_R X = mm_rm d mc ms) (hd : 5 ≤ d) (hde : dE + 1 ≤ d) (hn : n + 1 < 1000000) (hk : k + 1 ≤ mc) (hw : w + 6 ≤ ms) {k20 : Nat → Int32 → Int32 → Int32 → Int32 → Int32 → Int32 → Int32 → mm_C → mR Int32} (hk20 : ∀ (v0 : Nat) (v1 : Int32) (v2 : Int32) (v3 : Int32) (v4 : Int32) (v5 : Int32) (v6 : Int32) (v7 : Int32) (c : mm_C), hO 0 ovI n (k20 v0 v1 v2 v3 v4 v5 v6 v7 c) Q → mG Z qX12_endsBy X k w mc ms Q (20, [(0, .ref v0), (1, .int v1), (2, .int v2), (3, .int v3), (4, .int v4), (5, .int v5), (6, .int v6), (7, .int v7)], [], (n, c))) {v0 : Nat} {v1 : Int32} {v2 : Int32} {v3 : Int32} {v4 : Int32} {v5 : Int32} {v6 : Int32} {v7 : Int32} {c : mm_C} (hf : hO 0 ovI n (bX12_endsBy_140 N eE  k20 v0 v1 v2 v3 v4 v5 v6 v7 c) Q) : mG Z qX12_endsBy X k w mc ms Q (140, [(0, .ref v0), (1, .int v1), (2, .int v2), (3, .int v3), (4, .int v4), (5, .int v5), (6, .int v6), (7, .int v7)], [], (n, c)) := by
  unfold bX12_endsBy_140 at hf
  refine mg_iinc (lv' := [(0, .ref v0), (1, .int v1), (2, .int v2), (3, .int v3), (4, .int v4), (5, .int v5), (6, .int v6), (7, .int (v7 + 1))]) C rfl (Nat.le_of_ble_eq_true rfl) rfl (show _ + Int32.ofInt 1 = _ + 1 by congr 1) rfl ?_
  refine mg_goto C rfl ?_
  exact hk20 _ _ _ _ _ _ _ _ _ hf
def bX12_endsBy_93 (N : Nat) (eE : Nat → Int32 → Int32 → Int32 → Int32 → Int32 → Int32 → mm_C → mR Int32)  (k20 : Nat → Int32 → Int32 → Int32 → Int32 → Int32 → Int32 → Int32 → mm_C → mR Int32) (v0 : Nat) (v1 : Int32) (v2 : Int32) (v3 : Int32) (v4 : Int32) (v5 : Int32) (v6 : Int32) (v7 : Int32) (v8 : Int32) (s0 : Nat) (s1 : Int32) (s2 : Int32) (c : mm_C) : mR Int32 :=
  cV 12 s0 c (fX12_behind N s0 s1 s2 c) fun r1 c2 => Option.bind (gR c2 v0 12 44) fun x3 => Option.bind (tI c2 x3 v6 v7) fun c4 => if v5 < r1 then (bX12_endsBy_140 N eE  k20 v0 v1 v2 v3 v4 v5 v6 v7 c4) else (cV 12 v0 c4 (eE v0 v1 (v2 ||| ((1 : Int32) <<< (v7 &&& 31))) r1 v8 v5 (v6 + (1 : Int32)) c4) fun r5 c6 => if r5 = 0 then (bX12_endsBy_140 N eE  k20 v0 v1 v2 v3 v4 v5 v6 v7 c6) else (rZ (1 : Int32) c6))
set_option maxRecDepth 100000 in
theorem wX12_endsBy_93 {Z : mm_Z} {X : mm_T} {k w mc ms d n N : Nat} {Q : mm_O → mm_H → Prop} {eE : Nat → Int32 → Int32 → Int32 → Int32 → Int32 → Int32 → mm_C → mR Int32} {dE : Nat} (hE : hE_X12_endsBy Z dE eE) (C : mm_Ok Z qX12_endsBy X) (hRm : mt_R X = mm_rm d mc ms) (hd : 5 ≤ d) (hde : dE + 1 ≤ d) (hn : n + 1 < 1000000) (hk : k + 1 ≤ mc) (hw : w + 6 ≤ ms) {k20 : Nat → Int32 → Int32 → Int32 → Int32 → Int32 → Int32 → Int32 → mm_C → mR Int32} (hk20 : ∀ (v0 : Nat) (v1 : Int32) (v2 : Int32) (v3 : Int32) (v4 : Int32) (v5 : Int32) (v6 : Int32) (v7 : Int32) (c : mm_C), hO 0 ovI n (k20 v0 v1 v2 v3 v4 v5 v6 v7 c) Q → mG Z qX12_endsBy X k w mc ms Q (20, [(0, .ref v0), (1, .int v1), (2, .int v2), (3, .int v3), (4, .int v4), (5, .int v5), (6, .int v6), (7, .int v7)], [], (n, c))) {v0 : Nat} {v1 : Int32} {v2 : Int32} {v3 : Int32} {v4 : Int32} {v5 : Int32} {v6 : Int32} {v7 : Int32} {v8 : Int32} {s0 : Nat} {s1 : Int32} {s2 : Int32} {c : mm_C} (hf : hO 0 ovI n (bX12_endsBy_93 N eE  k20 v0 v1 v2 v3 v4 v5 v6 v7 v8 s0 s1 s2 c) Q) : mG Z qX12_endsBy X k w mc ms Q (93, [(0, .ref v0), (1, .int v1), (2, .int v2), (3, .int v3), (4, .int v4), (5, .int v5), (6, .int v6), (7, .int v7), (8, .int v8)], [.int s2, .int s1, .ref s0], (n, c)) := by
  unfold bX12_endsBy_93 at hf
  refine mh_cVI (M' := qX12_behind) C rfl rfl aX12_behind iX12_behind sX12_behind hRm (by omega) (by decide) (by omega) (by omega) rfl rfl rfl (Nat.le_of_ble_eq_true rfl) rfl hf (fun hs => wX12_behind (by omega) (by omega) hs) (fun r1 c2 hf => ?_)
  refine mg_istore (lv' := [(0, .ref v0), (1, .int v1), (2, .int v2), (3, .int v3), (4, .int v4), (5, .int v5), (6, .int v6), (7, .int v7), (8, .int v8), (9, .int r1)]) C rfl (Nat.le_of_ble_eq_true rfl) rfl ?_
  refine mg_aload_n C rfl rfl ?_
  refine mh_gR C rfl rfl rfl (by decide) hf (fun x3 hf => ?_)
  refine mg_iload C rfl rfl ?_
  refine mg_iload C rfl rfl ?_
  refine mh_tI C rfl hf (fun c4 hf => ?_)
  refine mg_iload C rfl rfl ?_
  refine mg_iload C rfl rfl ?_
  refine mh_icmp_gt C rfl hf (fun e_111 hf => ?_) (fun e_111 hf => ?_)
  · refine mg_sub (lv' := [(0, .ref v0), (1, .int v1), (2, .int v2), (3, .int v3), (4, .int v4), (5, .int v5), (6, .int v6), (7, .int v7)]) (by simp) ?_
    exact wX12_endsBy_140 hE C hRm hd hde hn hk hw hk20 hf
  · refine mg_aload_n C rfl rfl ?_
    refine mg_iload_n C rfl rfl ?_
    refine mg_iload_n C rfl rfl ?_
    refine mg_iconst (v := 1) C rfl (by decide) ?_
    refine mg_iload C rfl rfl ?_
    refine mg_ishl C rfl ?_
    refine mg_ior C rfl ?_
    refine mg_iload C rfl rfl ?_
    refine mg_iload C rfl rfl ?_
    refine mg_iload C rfl rfl ?_
    refine mg_iload C rfl rfl ?_
    refine mg_iconst (v := 1) C rfl (by decide) ?_
    refine mg_iadd C rfl ?_
    refine mh_cVI (M' := qX12_endsBy) C rfl rfl aX12_endsBy iX12_endsBy sX12_endsBy hRm (by omega) (by decide) (by omega) (by omega) rfl rfl rfl (Nat.le_of_ble_eq_true rfl) rfl hf (fun hs => hE _ (by omega) _ (by omega) _ _ _ _ _ _ _ _ hs) (fun r5 c6 hf => ?_)
    refine mh_if_eq C rfl hf (fun e_135 hf => ?_) (fun e_135 hf => ?_)
    · refine mg_sub (lv' := [(0, .ref v0), (1, .int v1), (2, .int v2), (3, .int v3), (4, .int v4), (5, .int v5), (6, .int v6), (7, .int v7)]) (by simp) ?_
      exact wX12_endsBy_140 hE C hRm hd hde hn hk hw hk20 hf
    · refine mg_iconst (v := 1) C rfl (by decide) ?_
      exact mh_zreturn C rfl (by omega) (by omega) rfl hf
def bX12_endsBy_69 (N : Nat) (eE : Nat → Int32 → Int32 → Int32 → Int32 → Int32 → Int32 → mm_C → mR Int32)  (k20 : Nat → Int32 → Int32 → Int32 → Int32 → Int32 → Int32 → Int32 → mm_C → mR Int32) (v0 : Nat) (v1 : Int32) (v2 : Int32) (v3 : Int32) (v4 : Int32) (v5 : Int32) (v6 : Int32) (v7 : Int32) (s0 : Int32) (c : mm_C) : mR Int32 :=
  if ¬ s0 = v4 then (Option.bind (gR c v0 12 3) fun x1 => Option.bind (aI c x1 (2 : Int32)) fun x2 => bX12_endsBy_93 N eE  k20 v0 v1 v2 v3 v4 v5 v6 v7 s0 v0 v7 (v3 + x2) c) else (bX12_endsBy_93 N eE  k20 v0 v1 v2 v3 v4 v5 v6 v7 s0 v0 v7 v3 c)
set_option maxRecDepth 100000 in
theorem wX12_endsBy_69 {Z : mm_Z} {X : mm_T} {k w mc ms d n N : Nat} {Q : mm_O → mm_H → Prop} {eE : Nat → Int32 → Int32 → Int32 → Int32 → Int32 → Int32 → mm_C → mR Int32} {dE : Nat} (hE : hE_X12_endsBy Z dE eE) (C : mm_Ok Z qX12_endsBy X) (hRm : mt_R X = mm_rm d mc ms) (hd : 5 ≤ d) (hde : dE + 1 ≤ d) (hn : n + 1 < 1000000) (hk : k + 1 ≤ mc) (hw : w + 6 ≤ ms) {k20 : Nat → Int32 → Int32 → Int32 → Int32 → Int32 → Int32 → Int32 → mm_C → mR Int32} (hk20 : ∀ (v0 : Nat) (v1 : Int32) (v2 : Int32) (v3 : Int32) (v4 : Int32) (v5 : Int32) (v6 : Int32) (v7 : Int32) (c : mm_C), hO 0 ovI n (k20 v0 v1 v2 v3 v4 v5 v6 v7 c) Q → mG Z qX12_endsBy X k w mc ms Q (20, [(0, .ref v0), (1, .int v1), (2, .int v2), (3, .int v3), (4, .int v4), (5, .int v5), (6, .int v6), (7, .int v7)], [], (n, c))) {v0 : Nat} {v1 : Int32} {v2 : Int32} {v3 : Int32} {v4 : Int32} {v5 : Int32} {v6 : Int32} {v7 : Int32} {s0 : Int32} {c : mm_C} (hf : hO 0 ovI n (bX12_endsBy_69 N eE  k20 v0 v1 v2 v3 v4 v5 v6 v7 s0 c) Q) : mG Z qX12_endsBy X k w mc ms Q (69, [(0, .ref v0), (1, .int v1), (2, .int v2), (3, .int v3), (4, .int v4), (5, .int v5), (6, .int v6), (7, .int v7)], [.int s0], (n, c)) := by
  unfold bX12_endsBy_69 at hf
  refine mg_istore (lv' := [(0, .ref v0), (1, .int v1), (2, .int v2), (3, .int v3), (4, .int v4), (5, .int v5), (6, .int v6), (7, .int v7), (8, .int s0)]) C rfl (Nat.le_of_ble_eq_true rfl) rfl ?_
  refine mg_aload_n C rfl rfl ?_
  refine mg_iload C rfl rfl ?_
  refine mg_iload C rfl rfl ?_
  refine mg_iload C rfl rfl ?_
  refine mh_icmp_ne C rfl hf (fun e_78 hf => ?_) (fun e_78 hf => ?_)
  · refine mg_iload_n C rfl rfl ?_
    refine mg_aload_n C rfl rfl ?_
    refine mh_gR C rfl rfl rfl (by decide) hf (fun x1 hf => ?_)
    refine mg_iconst (v := 2) C rfl (by decide) ?_
    refine mh_aI C rfl hf (fun x2 hf => ?_)
    refine mg_iadd C rfl ?_
    exact wX12_endsBy_93 hE C hRm hd hde hn hk hw hk20 hf
  · refine mg_iload_n C rfl rfl ?_
    refine mg_goto C rfl ?_
    exact wX12_endsBy_93 hE C hRm hd hde hn hk hw hk20 hf
def bX12_endsBy_20 (N : Nat) (eE : Nat → Int32 → Int32 → Int32 → Int32 → Int32 → Int32 → mm_C → mR Int32)  (k20 : Nat → Int32 → Int32 → Int32 → Int32 → Int32 → Int32 → Int32 → mm_C → mR Int32) (v0 : Nat) (v1 : Int32) (v2 : Int32) (v3 : Int32) (v4 : Int32) (v5 : Int32) (v6 : Int32) (v7 : Int32) (c : mm_C) : mR Int32 :=
  Option.bind (gR c v0 12 3) fun x1 => Option.bind (aI c x1 (0 : Int32)) fun x2 => if x2 ≤ v7 then (rZ (0 : Int32) c) else (cS (fX12_isOf N v1 v7 c) fun r3 c4 => if r3 = 0 then (bX12_endsBy_140 N eE  k20 v0 v1 v2 v3 v4 v5 v6 v7 c4) else (cV 12 v0 c4 (fX12_isOpen N v0 v7 v2 c4) fun r5 c6 => if ¬ r5 = 0 then (Option.bind (gR c6 v0 12 4) fun x7 => Option.bind (aI c6 x7 v7) fun x8 => if ¬ x8 = (2 : Int32) then (bX12_endsBy_69 N eE  k20 v0 v1 v2 v3 v4 v5 v6 v7 (0 : Int32) c6) else (bX12_endsBy_69 N eE  k20 v0 v1 v2 v3 v4 v5 v6 v7 (1 : Int32) c6)) else (bX12_endsBy_140 N eE  k20 v0 v1 v2 v3 v4 v5 v6 v7 c6)))
set_option maxRecDepth 100000 in
theorem wX12_endsBy_20 {Z : mm_Z} {X : mm_T} {k w mc ms d n N : Nat} {Q : mm_O → mm_H → Prop} {eE : Nat → Int32 → Int32 → Int32 → Int32 → Int32 → Int32 → mm_C → mR Int32} {dE : Nat} (hE : hE_X12_endsBy Z dE eE) (C : mm_Ok Z qX12_endsBy X) (hRm : mt_R X = mm_rm d mc ms) (hd : 5 ≤ d) (hde : dE + 1 ≤ d) (hn : n + 1 < 1000000) (hk : k + 1 ≤ mc) (hw : w + 6 ≤ ms) {k20 : Nat → Int32 → Int32 → Int32 → Int32 → Int32 → Int32 → Int32 → mm_C → mR Int32} (hk20 : ∀ (v0 : Nat) (v1 : Int32) (v2 : Int32) (v3 : Int32) (v4 : Int32) (v5 : Int32) (v6 : Int32) (v7 : Int32) (c : mm_C), hO 0 ovI n (k20 v0 v1 v2 v3 v4 v5 v6 v7 c) Q → mG Z qX12_endsBy X k w mc ms Q (20, [(0, .ref v0), (1, .int v1), (2, .int v2), (3, .int v3), (4, .int v4), (5, .int v5), (6, .int v6), (7, .int v7)], [], (n, c))) {v0 : Nat} {v1 : Int32} {v2 : Int32} {v3 : Int32} {v4 : Int32} {v5 : Int32} {v6 : Int32} {v7 : Int32} {c : mm_C} (hf : hO 0 ovI n (bX12_endsBy_20 N eE  k20 v0 v1 v2 v3 v4 v5 v6 v7 c) Q) : mG Z qX12_endsBy X k w mc ms Q (20, [(0, .ref v0), (1, .int v1), (2, .int v2), (3, .int v3), (4, .int v4), (5, .int v5), (6, .int v6), (7, .int v7)], [], (n, c)) := by
  unfold bX12_endsBy_20 at hf
  refine mg_iload C rfl rfl ?_
  refine mg_aload_n C rfl rfl ?_
  refine mh_gR C rfl rfl rfl (by decide) hf (fun x1 hf => ?_)
  refine mg_iconst (v := 0) C rfl (by decide) ?_
  refine mh_aI C rfl hf (fun x2 hf => ?_)
  refine mh_icmp_ge C rfl hf (fun e_28 hf => ?_) (fun e_28 hf => ?_)
  · refine mg_iconst (v := 0) C rfl (by decide) ?_
    exact mh_zreturn C rfl (by omega) (by omega) rfl hf
  · refine mg_iload_n C rfl rfl ?_
    refine mg_iload C rfl rfl ?_
    refine mh_cSI (M' := qX12_isOf) C rfl rfl aX12_isOf tX12_isOf hRm (by omega) (by decide) (by omega) (by omega) rfl rfl (Nat.le_of_ble_eq_true rfl) rfl hf (fun hs => wX12_isOf (by omega) (by omega) hs) (fun r3 c4 hf => ?_)
    refine mh_if_eq C rfl hf (fun e_37 hf => ?_) (fun e_37 hf => ?_)
    · exact wX12_endsBy_140 hE C hRm hd hde hn hk hw hk20 hf
    · refine mg_aload_n C rfl rfl ?_
      refine mg_iload C rfl rfl ?_
      refine mg_iload_n C rfl rfl ?_
      refine mh_cVI (M' := qX12_isOpen) C rfl rfl aX12_isOpen iX12_isOpen sX12_isOpen hRm (by omega) (by decide) (by omega) (by omega) rfl rfl rfl (Nat.le_of_ble_eq_true rfl) rfl hf (fun hs => wX12_isOpen (by omega) (by omega) hs) (fun r5 c6 hf => ?_)
      refine mh_if_ne C rfl hf (fun e_47 hf => ?_) (fun e_47 hf => ?_)
      · refine mg_aload_n C rfl rfl ?_
        refine mh_gR C rfl rfl rfl (by decide) hf (fun x7 hf => ?_)
        refine mg_iload C rfl rfl ?_
        refine mh_aI C rfl hf (fun x8 hf => ?_)
        refine mg_iconst (v := 2) C rfl (by decide) ?_
        refine mh_icmp_ne C rfl hf (fun e_61 hf => ?_) (fun e_61 hf => ?_)
        · refine mg_iconst (v := 0) C rfl (by decide) ?_
          exact wX12_endsBy_69 hE C hRm hd hde hn hk hw hk20 hf
        · refine mg_iconst (v := 1) C rfl (by decide) ?_
          refine mg_goto C rfl ?_
          exact wX12_endsBy_69 hE C hRm hd hde hn hk hw hk20 hf
      · refine mg_goto C rfl ?_
        exact wX12_endsBy_140 hE C hRm hd hde hn hk hw hk20 hf
def lX12_endsBy_20 (N : Nat) (eE : Nat → Int32 → Int32 → Int32 → Int32 → Int32 → Int32 → mm_C → mR Int32)  : Nat → Nat → Int32 → Int32 → Int32 → Int32 → Int32 → Int32 → Int32 → mm_C → mR Int32
  | 0, _, _, _, _, _, _, _, _, _ => none
  | m + 1, v0, v1, v2, v3, v4, v5, v6, v7, c => bX12_endsBy_20 N eE  (lX12_endsBy_20 N eE  m) v0 v1 v2 v3 v4 v5 v6 v7 c
theorem WX12_endsBy_20 {Z : mm_Z} {X : mm_T} {k w mc ms d n N : Nat} {Q : mm_O → mm_H → Prop} {eE : Nat → Int32 → Int32 → Int32 → Int32 → Int32 → Int32 → mm_C → mR Int32} {dE : Nat} (hE : hE_X12_endsBy Z dE eE) (C : mm_Ok Z qX12_endsBy X) (hRm : mt_R X = mm_rm d mc ms) (hd : 5 ≤ d) (hde : dE + 1 ≤ d) (hn : n + 1 < 1000000) (hk : k + 1 ≤ mc) (hw : w + 6 ≤ ms) : ∀ (m : Nat) {v0 : Nat} {v1 : Int32} {v2 : Int32} {v3 : Int32} {v4 : Int32} {v5 : Int32} {v6 : Int32} {v7 : Int32} {c : mm_C} (hf : hO 0 ovI n (lX12_endsBy_20 N eE  m v0 v1 v2 v3 v4 v5 v6 v7 c) Q), mG Z qX12_endsBy X k w mc ms Q (20, [(0, .ref v0), (1, .int v1), (2, .int v2), (3, .int v3), (4, .int v4), (5, .int v5), (6, .int v6), (7, .int v7)], [], (n, c)) := by
  intro m
  induction m with
  | zero => intro v0 v1 v2 v3 v4 v5 v6 v7 c hf; exact absurd hf hO_none
  | succ m ih => intro v0 v1 v2 v3 v4 v5 v6 v7 c hf; exact wX12_endsBy_20 hE C hRm hd hde hn hk hw (fun v0 v1 v2 v3 v4 v5 v6 v7 c hf => ih hf) hf
def bX12_endsBy_0 (N : Nat) (eE : Nat → Int32 → Int32 → Int32 → Int32 → Int32 → Int32 → mm_C → mR Int32)  (v0 : Nat) (v1 : Int32) (v2 : Int32) (v3 : Int32) (v4 : Int32) (v5 : Int32) (v6 : Int32) (c : mm_C) : mR Int32 :=
  if ¬ v2 = v1 then (lX12_endsBy_20 N eE  N v0 v1 v2 v3 v4 v5 v6 (0 : Int32) c) else (if ¬ v3 = v5 then (rZ (0 : Int32) c) else (rZ (1 : Int32) c))
set_option maxRecDepth 100000 in
theorem wX12_endsBy_0 {Z : mm_Z} {X : mm_T} {k w mc ms d n N : Nat} {Q : mm_O → mm_H → Prop} {eE : Nat → Int32 → Int32 → Int32 → Int32 → Int32 → Int32 → mm_C → mR Int32} {dE : Nat} (hE : hE_X12_endsBy Z dE eE) (C : mm_Ok Z qX12_endsBy X) (hRm : mt_R X = mm_rm d mc ms) (hd : 5 ≤ d) (hde : dE + 1 ≤ d) (hn : n + 1 < 1000000) (hk : k + 1 ≤ mc) (hw : w + 6 ≤ ms) {v0 : Nat} {v1 : Int32} {v2 : Int32} {v3 : Int32} {v4 : Int32} {v5 : Int32} {v6 : Int32} {c : mm_C} (hf : hO 0 ovI n (bX12_endsBy_0 N eE  v0 v1 v2 v3 v4 v5 v6 c) Q) : mG Z qX12_endsBy X k w mc ms Q (0, [(0, .ref v0), (1, .int v1), (2, .int v2), (3, .int v3), (4, .int v4), (5, .int v5), (6, .int v6)], [], (n, c)) := by
  unfold bX12_endsBy_0 at hf
  refine mg_iload_n C rfl rfl ?_
  refine mg_iload_n C rfl rfl ?_
  refine mh_icmp_ne C rfl hf (fun e_2 hf => ?_) (fun e_2 hf => ?_)
  · refine mg_iconst (v := 0) C rfl (by decide) ?_
    refine mg_istore (lv' := [(0, .ref v0), (1, .int v1), (2, .int v2), (3, .int v3), (4, .int v4), (5, .int v5), (6, .int v6), (7, .int (0 : Int32))]) C rfl (Nat.le_of_ble_eq_true rfl) rfl ?_
    exact WX12_endsBy_20 hE C hRm hd hde hn hk hw N hf
  · refine mg_iload_n C rfl rfl ?_
    refine mg_iload C rfl rfl ?_
    refine mh_icmp_ne C rfl hf (fun e_8 hf => ?_) (fun e_8 hf => ?_)
    · refine mg_iconst (v := 0) C rfl (by decide) ?_
      exact mh_zreturn C rfl (by omega) (by omega) rfl hf
    · refine mg_iconst (v := 1) C rfl (by decide) ?_
      refine mg_goto C rfl ?_
      exact mh_zreturn C rfl (by omega) (by omega) rfl hf
def fg_X12_endsBy (N : Nat) (eE : Nat → Int32 → Int32 → Int32 → Int32 → Int32 → Int32 → mm_C → mR Int32) (v0 : Nat) (v1 : Int32) (v2 : Int32) (v3 : Int32) (v4 : Int32) (v5 : Int32) (v6 : Int32) (c : mm_C) : mR Int32 := bX12_endsBy_0 N eE v0 v1 v2 v3 v4 v5 v6 c
set_option maxRecDepth 100000 in
theorem wg_X12_endsBy {Z : mm_Z} {d n N : Nat} {eE : Nat → Int32 → Int32 → Int32 → Int32 → Int32 → Int32 → mm_C → mR Int32} {dE : Nat} (hE : hE_X12_endsBy Z dE eE) (hd : 5 ≤ d) (hde : dE + 1 ≤ d) (hn : n + 1 < 1000000) {v0 : Nat} {v1 : Int32} {v2 : Int32} {v3 : Int32} {v4 : Int32} {v5 : Int32} {v6 : Int32} {c : mm_C} (hs : (fg_X12_endsBy N eE v0 v1 v2 v3 v4 v5 v6 c).isSome = true) : mC Z qX12_endsBy d 1 6 [.ref v0, .int v1, .int v2, .int v3, .int v4, .int v5, .int v6] (n, c) (mP 0 ovI n (fg_X12_endsBy N eE v0 v1 v2 v3 v4 v5 v6 c)) := by
  refine mC_of gX12_endsBy (by decide +kernel) (Nat.le_of_ble_eq_true rfl) fun X C hRm => ?_
  have hf := hO_mP 0 ovI n hs
  have hk : 0 + 1 ≤ 1 := Nat.le_of_ble_eq_true rfl
  have hw : 0 + 6 ≤ 6 := Nat.le_of_ble_eq_true rfl
  show mG _ _ _ _ _ _ _ _ (0, [(0, .ref v0), (1, .int v1), (2, .int v2), (3, .int v3), (4, .int v4), (5, .int v5), (6, .int v6)], [], (n, c))
  exact wX12_endsBy_0 hE C hRm hd hde hn hk hw hf
def fX12_endsBy (N : Nat) : Nat → Nat → Int32 → Int32 → Int32 → Int32 → Int32 → Int32 → mm_C → mR Int32
  | 0, _, _, _, _, _, _, _, _ => none
  | r + 1, v0, v1, v2, v3, v4, v5, v6, c => fg_X12_endsBy N (fX12_endsBy N r) v0 v1 v2 v3 v4 v5 v6 c
theorem hE_X12_endsBy_of {Z : mm_Z} {N : Nat} : ∀ r : Nat, hE_X12_endsBy Z (5 + 1 * r) (fX12_endsBy N r)
  | 0 => fun d hd n hn _ _ _ _ _ _ _ c hs => absurd hs (by simp [fX12_endsBy])
  | r + 1 => fun d hd n hn _ _ _ _ _ _ _ c hs => wg_X12_endsBy (hE_X12_endsBy_of r) (by omega) (by omega) hn hs
theorem wX12_endsBy {Z : mm_Z} {d n N : Nat} (hd : 17 ≤ d) (hn : n + 1 < 1000000) {v0 : Nat} {v1 : Int32} {v2 : Int32} {v3 : Int32} {v4 : Int32} {v5 : Int32} {v6 : Int32} {c : mm_C} (hs : (fX12_endsBy N 12 v0 v1 v2 v3 v4 v5 v6 c).isSome = true) : mC Z qX12_endsBy d 1 6 [.ref v0, .int v1, .int v2, .int v3, .int v4, .int v5, .int v6] (n, c) (mP 0 ovI n (fX12_endsBy N 12 v0 v1 v2 v3 v4 v5 v6 c)) := hE_X12_endsBy_of 12 d hd n hn _ _ _ _ _ _ _ c hs
def bX12_order_0 (N : Nat)  (v0 : Nat) (v1 : Int32) (c : mm_C) : mR Int32 :=
  Option.bind (pI c v0 12 2 (0 : Int32)) fun c1 => cV 12 v0 c1 (fX12_set N v0 c1) fun (_ : Unit) c2 => cV 12 v0 c2 (fX12_all N v0 c2) fun r3 c4 => cV 12 v0 c4 (fX12_tellNow N v0 r3 c4) fun (_ : Unit) c5 => cV 12 v0 c5 (fX12_mostSet N v0 c5) fun r6 c7 => cS (fX12_bitsOf N r6 c7) fun r8 c9 => cS (fX12_isIn N v1.toInt64 (0 : Int64) ((r8 - (1 : Int32)).toInt64) c9) fun r10 c11 => if ¬ r10 = 0 then (Option.bind (gR c11 v0 12 26) fun x12 => Option.bind (aI c11 x12 (0 : Int32)) fun x13 => Option.bind (gR c11 v0 12 26) fun x14 => Option.bind (aI c11 x14 (1 : Int32)) fun x15 => cV 12 v0 c11 (fX12_soonOf N v0 r6 c11) fun r16 c17 => cV 12 v0 c17 (fX12_endsBy N 12 v0 r6 (0 : Int32) x13 x15 r16 (0 : Int32) c17) fun r18 c19 => Option.bind (gR c19 v0 12 44) fun x20 => Option.bind (aI c19 x20 v1) fun x21 => some (.inl x21, c19)) else (cV 12 v0 c11 (fX12_fail N v0 (1 : Int32) c11) fun r22 c23 => some (.inl r22, c23))
set_option maxRecDepth 100000 in
theorem wX12_order_0 {Z : mm_Z} {X : mm_T} {k w mc ms d n N : Nat} {Q : mm_O → mm_H → Prop} (C : mm_Ok Z qX12_order X) (hRm : mt_R X = mm_rm d mc ms) (hd : 18 ≤ d) (hn : n + 1 < 1000000) (hk : k + 1 ≤ mc) (hw : w + 6 ≤ ms) {v0 : Nat} {v1 : Int32} {c : mm_C} (hf : hO 0 ovI n (bX12_order_0 N  v0 v1 c) Q) : mG Z qX12_order X k w mc ms Q (0, [(0, .ref v0), (1, .int v1)], [], (n, c)) := by
  unfold bX12_order_0 at hf
  refine mg_aload_n C rfl rfl ?_
  refine mg_iconst (v := 0) C rfl (by decide) ?_
  refine mh_pI C rfl rfl rfl (by decide) rfl rfl rfl hf (fun c1 hf => ?_)
  refine mg_aload_n C rfl rfl ?_
  refine mh_cVU (M' := qX12_set) C rfl rfl aX12_set iX12_set sX12_set hRm (by omega) (by decide) (by omega) (by omega) rfl rfl rfl (Nat.le_of_ble_eq_true rfl) rfl hf (fun hs => wX12_set (by omega) (by omega) hs) (fun c2 hf => ?_)
  refine mg_aload_n C rfl rfl ?_
  refine mg_aload_n C rfl rfl ?_
  refine mh_cVI (M' := qX12_all) C rfl rfl aX12_all iX12_all sX12_all hRm (by omega) (by decide) (by omega) (by omega) rfl rfl rfl (Nat.le_of_ble_eq_true rfl) rfl hf (fun hs => wX12_all (by omega) (by omega) hs) (fun r3 c4 hf => ?_)
  refine mh_cVU (M' := qX12_tellNow) C rfl rfl aX12_tellNow iX12_tellNow sX12_tellNow hRm (by omega) (by decide) (by omega) (by omega) rfl rfl rfl (Nat.le_of_ble_eq_true rfl) rfl hf (fun hs => wX12_tellNow (by omega) (by omega) hs) (fun c5 hf => ?_)
  refine mg_aload_n C rfl rfl ?_
  refine mh_cVI (M' := qX12_mostSet) C rfl rfl aX12_mostSet iX12_mostSet sX12_mostSet hRm (by omega) (by decide) (by omega) (by omega) rfl rfl rfl (Nat.le_of_ble_eq_true rfl) rfl hf (fun hs => wX12_mostSet (by omega) (by omega) hs) (fun r6 c7 hf => ?_)
  refine mg_istore_n (lv' := [(0, .ref v0), (1, .int v1), (2, .int r6)]) C rfl (Nat.le_of_ble_eq_true rfl) rfl ?_
  refine mg_iload_n C rfl rfl ?_
  refine mg_i2l C rfl ?_
  refine mg_lconst (v := 0) C rfl (by decide) ?_
  refine mg_iload_n C rfl rfl ?_
  refine mh_cSI (M' := qX12_bitsOf) C rfl rfl aX12_bitsOf tX12_bitsOf hRm (by omega) (by decide) (by omega) (by omega) rfl rfl (Nat.le_of_ble_eq_true rfl) rfl hf (fun hs => wX12_bitsOf (by omega) (by omega) hs) (fun r8 c9 hf => ?_)
  refine mg_iconst (v := 1) C rfl (by decide) ?_
  refine mg_isub C rfl ?_
  refine mg_i2l C rfl ?_
  refine mh_cSI (M' := qX12_isIn) C rfl rfl aX12_isIn tX12_isIn hRm (by omega) (by decide) (by omega) (by omega) rfl rfl (Nat.le_of_ble_eq_true rfl) rfl hf (fun hs => wX12_isIn (by omega) (by omega) hs) (fun r10 c11 hf => ?_)
  refine mh_if_ne C rfl hf (fun e_35 hf => ?_) (fun e_35 hf => ?_)
  · refine mg_aload_n C rfl rfl ?_
    refine mg_iload_n C rfl rfl ?_
    refine mg_iconst (v := 0) C rfl (by decide) ?_
    refine mg_aload_n C rfl rfl ?_
    refine mh_gR C rfl rfl rfl (by decide) hf (fun x12 hf => ?_)
    refine mg_iconst (v := 0) C rfl (by decide) ?_
    refine mh_aI C rfl hf (fun x13 hf => ?_)
    refine mg_aload_n C rfl rfl ?_
    refine mh_gR C rfl rfl rfl (by decide) hf (fun x14 hf => ?_)
    refine mg_iconst (v := 1) C rfl (by decide) ?_
    refine mh_aI C rfl hf (fun x15 hf => ?_)
    refine mg_aload_n C rfl rfl ?_
    refine mg_iload_n C rfl rfl ?_
    refine mh_cVI (M' := qX12_soonOf) C rfl rfl aX12_soonOf iX12_soonOf sX12_soonOf hRm (by omega) (by decide) (by omega) (by omega) rfl rfl rfl (Nat.le_of_ble_eq_true rfl) rfl hf (fun hs => wX12_soonOf (by omega) (by omega) hs) (fun r16 c17 hf => ?_)
    refine mg_iconst (v := 0) C rfl (by decide) ?_
    refine mh_cVI (M' := qX12_endsBy) C rfl rfl aX12_endsBy iX12_endsBy sX12_endsBy hRm (by omega) (by decide) (by omega) (by omega) rfl rfl rfl (Nat.le_of_ble_eq_true rfl) rfl hf (fun hs => wX12_endsBy (by omega) (by omega) hs) (fun r18 c19 hf => ?_)
    refine mg_pop C rfl rfl ?_
    refine mg_aload_n C rfl rfl ?_
    refine mh_gR C rfl rfl rfl (by decide) hf (fun x20 hf => ?_)
    refine mg_iload_n C rfl rfl ?_
    refine mh_aI C rfl hf (fun x21 hf => ?_)
    exact mh_ireturn C rfl (by omega) (by omega) rfl hf
  · refine mg_aload_n C rfl rfl ?_
    refine mg_iconst (v := 1) C rfl (by decide) ?_
    refine mh_cVI (M' := qX12_fail) C rfl rfl aX12_fail iX12_fail sX12_fail hRm (by omega) (by decide) (by omega) (by omega) rfl rfl rfl (Nat.le_of_ble_eq_true rfl) rfl hf (fun hs => wX12_fail (by omega) (by omega) hs) (fun r22 c23 hf => ?_)
    exact mh_ireturn C rfl (by omega) (by omega) rfl hf
def fX12_order (N : Nat) (v0 : Nat) (v1 : Int32) (c : mm_C) : mR Int32 := bX12_order_0 N v0 v1 c
set_option maxRecDepth 100000 in
theorem wX12_order {Z : mm_Z} {d n N : Nat} (hd : 18 ≤ d) (hn : n + 1 < 1000000) {v0 : Nat} {v1 : Int32} {c : mm_C} (hs : (fX12_order N v0 v1 c).isSome = true) : mC Z qX12_order d 1 6 [.ref v0, .int v1] (n, c) (mP 0 ovI n (fX12_order N v0 v1 c)) := by
  refine mC_of gX12_order (by decide +kernel) (Nat.le_of_ble_eq_true rfl) fun X C hRm => ?_
  have hf := hO_mP 0 ovI n hs
  have hk : 0 + 1 ≤ 1 := Nat.le_of_ble_eq_true rfl
  have hw : 0 + 6 ≤ 6 := Nat.le_of_ble_eq_true rfl
  show mG _ _ _ _ _ _ _ _ (0, [(0, .ref v0), (1, .int v1)], [], (n, c))
  exact wX12_order_0 C hRm hd hn hk hw hf
def bX12_soonest_30 (N : Nat)  (v0 : Nat) (c : mm_C) : mR Int32 :=
  cV 12 v0 c (fX12_fail N v0 (1 : Int32) c) fun r1 c2 => some (.inl r1, c2)
set_option maxRecDepth 100000 in
theorem wX12_soonest_30 {Z : mm_Z} {X : mm_T} {k w mc ms d n N : Nat} {Q : mm_O → mm_H → Prop} (C : mm_Ok Z qX12_soonest X) (hRm : mt_R X = mm_rm d mc ms) (hd : 7 ≤ d) (hn : n + 1 < 1000000) (hk : k + 1 ≤ mc) (hw : w + 6 ≤ ms) {v0 : Nat} {c : mm_C} (hf : hO 0 ovI n (bX12_soonest_30 N  v0 c) Q) : mG Z qX12_soonest X k w mc ms Q (30, [(0, .ref v0)], [], (n, c)) := by
  unfold bX12_soonest_30 at hf
  refine mg_aload_n C rfl rfl ?_
  refine mg_iconst (v := 1) C rfl (by decide) ?_
  refine mh_cVI (M' := qX12_fail) C rfl rfl aX12_fail iX12_fail sX12_fail hRm (by omega) (by decide) (by omega) (by omega) rfl rfl rfl (Nat.le_of_ble_eq_true rfl) rfl hf (fun hs => wX12_fail (by omega) (by omega) hs) (fun r1 c2 hf => ?_)
  exact mh_ireturn C rfl (by omega) (by omega) rfl hf
def bX12_soonest_0 (N : Nat)  (v0 : Nat) (v1 : Int32) (c : mm_C) : mR Int32 :=
  Option.bind (pI c v0 12 2 (0 : Int32)) fun c1 => cV 12 v0 c1 (fX12_all N v0 c1) fun r2 c3 => cS (fX12_isIn N v1.toInt64 (0 : Int64) r2.toInt64 c3) fun r4 c5 => if r4 = 0 then (bX12_soonest_30 N  v0 c5) else (Option.bind (gR c5 v0 12 26) fun x6 => Option.bind (aI c5 x6 (2 : Int32)) fun x7 => if (v1 &&& x7) = 0 then (cV 12 v0 c5 (fX12_set N v0 c5) fun (_ : Unit) c8 => cV 12 v0 c8 (fX12_tellNow N v0 v1 c8) fun (_ : Unit) c9 => cV 12 v0 c9 (fX12_soonOf N v0 v1 c9) fun r10 c11 => if r10 < (100000 : Int32) then (some (.inl r10, c11)) else (some (.inl (-1 : Int32), c11))) else (bX12_soonest_30 N  v0 c5))
set_option maxRecDepth 100000 in
theorem wX12_soonest_0 {Z : mm_Z} {X : mm_T} {k w mc ms d n N : Nat} {Q : mm_O → mm_H → Prop} (C : mm_Ok Z qX12_soonest X) (hRm : mt_R X = mm_rm d mc ms) (hd : 7 ≤ d) (hn : n + 1 < 1000000) (hk : k + 1 ≤ mc) (hw : w + 6 ≤ ms) {v0 : Nat} {v1 : Int32} {c : mm_C} (hf : hO 0 ovI n (bX12_soonest_0 N  v0 v1 c) Q) : mG Z qX12_soonest X k w mc ms Q (0, [(0, .ref v0), (1, .int v1)], [], (n, c)) := by
  unfold bX12_soonest_0 at hf
  refine mg_aload_n C rfl rfl ?_
  refine mg_iconst (v := 0) C rfl (by decide) ?_
  refine mh_pI C rfl rfl rfl (by decide) rfl rfl rfl hf (fun c1 hf => ?_)
  refine mg_iload_n C rfl rfl ?_
  refine mg_i2l C rfl ?_
  refine mg_lconst (v := 0) C rfl (by decide) ?_
  refine mg_aload_n C rfl rfl ?_
  refine mh_cVI (M' := qX12_all) C rfl rfl aX12_all iX12_all sX12_all hRm (by omega) (by decide) (by omega) (by omega) rfl rfl rfl (Nat.le_of_ble_eq_true rfl) rfl hf (fun hs => wX12_all (by omega) (by omega) hs) (fun r2 c3 hf => ?_)
  refine mg_i2l C rfl ?_
  refine mh_cSI (M' := qX12_isIn) C rfl rfl aX12_isIn tX12_isIn hRm (by omega) (by decide) (by omega) (by omega) rfl rfl (Nat.le_of_ble_eq_true rfl) rfl hf (fun hs => wX12_isIn (by omega) (by omega) hs) (fun r4 c5 hf => ?_)
  refine mh_if_eq C rfl hf (fun e_16 hf => ?_) (fun e_16 hf => ?_)
  · refine mg_sub (lv' := [(0, .ref v0)]) (by simp) ?_
    exact wX12_soonest_30 C hRm hd hn hk hw hf
  · refine mg_iload_n C rfl rfl ?_
    refine mg_aload_n C rfl rfl ?_
    refine mh_gR C rfl rfl rfl (by decide) hf (fun x6 hf => ?_)
    refine mg_iconst (v := 2) C rfl (by decide) ?_
    refine mh_aI C rfl hf (fun x7 hf => ?_)
    refine mg_iand C rfl ?_
    refine mh_if_eq C rfl hf (fun e_27 hf => ?_) (fun e_27 hf => ?_)
    · refine mg_aload_n C rfl rfl ?_
      refine mh_cVU (M' := qX12_set) C rfl rfl aX12_set iX12_set sX12_set hRm (by omega) (by decide) (by omega) (by omega) rfl rfl rfl (Nat.le_of_ble_eq_true rfl) rfl hf (fun hs => wX12_set (by omega) (by omega) hs) (fun c8 hf => ?_)
      refine mg_aload_n C rfl rfl ?_
      refine mg_iload_n C rfl rfl ?_
      refine mh_cVU (M' := qX12_tellNow) C rfl rfl aX12_tellNow iX12_tellNow sX12_tellNow hRm (by omega) (by decide) (by omega) (by omega) rfl rfl rfl (Nat.le_of_ble_eq_true rfl) rfl hf (fun hs => wX12_tellNow (by omega) (by omega) hs) (fun c9 hf => ?_)
      refine mg_aload_n C rfl rfl ?_
      refine mg_iload_n C rfl rfl ?_
      refine mh_cVI (M' := qX12_soonOf) C rfl rfl aX12_soonOf iX12_soonOf sX12_soonOf hRm (by omega) (by decide) (by omega) (by omega) rfl rfl rfl (Nat.le_of_ble_eq_true rfl) rfl hf (fun hs => wX12_soonOf (by omega) (by omega) hs) (fun r10 c11 hf => ?_)
      refine mg_istore_n (lv' := [(0, .ref v0), (1, .int v1), (2, .int r10)]) C rfl (Nat.le_of_ble_eq_true rfl) rfl ?_
      refine mg_iload_n C rfl rfl ?_
      refine mg_ldc C rfl rfl ?_
      refine mh_icmp_lt C rfl hf (fun e_54 hf => ?_) (fun e_54 hf => ?_)
      · refine mg_iload_n C rfl rfl ?_
        exact mh_ireturn C rfl (by omega) (by omega) rfl hf
      · refine mg_iconst (v := (-1)) C rfl (by decide) ?_
        refine mg_goto C rfl ?_
        exact mh_ireturn C rfl (by omega) (by omega) rfl hf
    · refine mg_sub (lv' := [(0, .ref v0)]) (by simp) ?_
      exact wX12_soonest_30 C hRm hd hn hk hw hf
def fX12_soonest (N : Nat) (v0 : Nat) (v1 : Int32) (c : mm_C) : mR Int32 := bX12_soonest_0 N v0 v1 c
set_option maxRecDepth 100000 in
theorem wX12_soonest {Z : mm_Z} {d n N : Nat} (hd : 7 ≤ d) (hn : n + 1 < 1000000) {v0 : Nat} {v1 : Int32} {c : mm_C} (hs : (fX12_soonest N v0 v1 c).isSome = true) : mC Z qX12_soonest d 1 6 [.ref v0, .int v1] (n, c) (mP 0 ovI n (fX12_soonest N v0 v1 c)) := by
  refine mC_of gX12_soonest (by decide +kernel) (Nat.le_of_ble_eq_true rfl) fun X C hRm => ?_
  have hf := hO_mP 0 ovI n hs
  have hk : 0 + 1 ≤ 1 := Nat.le_of_ble_eq_true rfl
  have hw : 0 + 6 ≤ 6 := Nat.le_of_ble_eq_true rfl
  show mG _ _ _ _ _ _ _ _ (0, [(0, .ref v0), (1, .int v1)], [], (n, c))
  exact wX12_soonest_0 C hRm hd hn hk hw hf
def bX12_inside_184 (N : Nat)  (v2 : Int32) (c : mm_C) : mR Int32 :=
  some (.inl v2, c)
set_option maxRecDepth 100000 in
theorem wX12_inside_184 {Z : mm_Z} {X : mm_T} {k w mc ms d n N : Nat} {Q : mm_O → mm_H → Prop} (C : mm_Ok Z qX12_inside X) (hRm : mt_R X = mm_rm d mc ms) (hd : 6 ≤ d) (hn : n + 1 < 1000000) (hk : k + 1 ≤ mc) (hw : w + 6 ≤ ms) {v2 : Int32} {c : mm_C} (hf : hO 0 ovI n (bX12_inside_184 N  v2 c) Q) : mG Z qX12_inside X k w mc ms Q (184, [(2, .int v2)], [], (n, c)) := by
  unfold bX12_inside_184 at hf
  refine mg_iload_n C rfl rfl ?_
  exact mh_ireturn C rfl (by omega) (by omega) rfl hf
def bX12_inside_156 (N : Nat)  (k92 : Nat → Int32 → Int32 → mm_C → mR Int32) (v0 : Nat) (v1 : Int32) (v2 : Int32) (c : mm_C) : mR Int32 :=
  Option.bind (gR c v0 12 3) fun x1 => Option.bind (aI c x1 (2 : Int32)) fun x2 => cV 12 v0 c (fX12_tellSoon N v0 (v2 + x2) (1 : Int32) c) fun (_ : Unit) c3 => Option.bind (gR c3 v0 12 41) fun x4 => Option.bind (aI c3 x4 (((2 : Int32) * v1) + (1 : Int32))) fun x5 => if (100000 : Int32) ≤ x5 then (k92 v0 v1 (v2 + (-1)) c3) else (bX12_inside_184 N  v2 c3)
set_option maxRecDepth 100000 in
theorem wX12_inside_156 {Z : mm_Z} {X : mm_T} {k w mc ms d n N : Nat} {Q : mm_O → mm_H → Prop} (C : mm_Ok Z qX12_inside X) (hRm : mt_R X = mm_rm d mc ms) (hd : 6 ≤ d) (hn : n + 1 < 1000000) (hk : k + 1 ≤ mc) (hw : w + 6 ≤ ms) {k92 : Nat → Int32 → Int32 → mm_C → mR Int32} (hk92 : ∀ (v0 : Nat) (v1 : Int32) (v2 : Int32) (c : mm_C), hO 0 ovI n (k92 v0 v1 v2 c) Q → mG Z qX12_inside X k w mc ms Q (92, [(0, .ref v0), (1, .int v1), (2, .int v2)], [], (n, c))) {v0 : Nat} {v1 : Int32} {v2 : Int32} {c : mm_C} (hf : hO 0 ovI n (bX12_inside_156 N  k92 v0 v1 v2 c) Q) : mG Z qX12_inside X k w mc ms Q (156, [(0, .ref v0), (1, .int v1), (2, .int v2)], [], (n, c)) := by
  unfold bX12_inside_156 at hf
  refine mg_aload_n C rfl rfl ?_
  refine mg_iload_n C rfl rfl ?_
  refine mg_aload_n C rfl rfl ?_
  refine mh_gR C rfl rfl rfl (by decide) hf (fun x1 hf => ?_)
  refine mg_iconst (v := 2) C rfl (by decide) ?_
  refine mh_aI C rfl hf (fun x2 hf => ?_)
  refine mg_iadd C rfl ?_
  refine mg_iconst (v := 1) C rfl (by decide) ?_
  refine mh_cVU (M' := qX12_tellSoon) C rfl rfl aX12_tellSoon iX12_tellSoon sX12_tellSoon hRm (by omega) (by decide) (by omega) (by omega) rfl rfl rfl (Nat.le_of_ble_eq_true rfl) rfl hf (fun hs => wX12_tellSoon (by omega) (by omega) hs) (fun c3 hf => ?_)
  refine mg_aload_n C rfl rfl ?_
  refine mh_gR C rfl rfl rfl (by decide) hf (fun x4 hf => ?_)
  refine mg_iconst (v := 2) C rfl (by decide) ?_
  refine mg_iload_n C rfl rfl ?_
  refine mg_imul C rfl ?_
  refine mg_iconst (v := 1) C rfl (by decide) ?_
  refine mg_iadd C rfl ?_
  refine mh_aI C rfl hf (fun x5 hf => ?_)
  refine mg_ldc C rfl rfl ?_
  refine mh_icmp_ge C rfl hf (fun e_181 hf => ?_) (fun e_181 hf => ?_)
  · refine mg_iinc (lv' := [(0, .ref v0), (1, .int v1), (2, .int (v2 + (-1)))]) C rfl (Nat.le_of_ble_eq_true rfl) rfl (show _ + Int32.ofInt (-1) = _ + (-1) by congr 1) rfl ?_
    refine mg_goto C rfl ?_
    exact hk92 _ _ _ _ hf
  · refine mg_sub (lv' := [(2, .int v2)]) (by simp) ?_
    exact wX12_inside_184 C hRm hd hn hk hw hf
def bX12_inside_146 (N : Nat)  (k92 : Nat → Int32 → Int32 → mm_C → mR Int32) (k114 : Nat → Int32 → Int32 → Int32 → mm_C → mR Int32) (v0 : Nat) (v1 : Int32) (v2 : Int32) (v3 : Int32) (s0 : Nat) (s1 : Int32) (s2 : Int32) (c : mm_C) : mR Int32 :=
  Option.bind (pI c s0 12 43 (s1 ||| s2)) fun c1 => k114 v0 v1 v2 (v3 + 1) c1
set_option maxRecDepth 100000 in
theorem wX12_inside_146 {Z : mm_Z} {X : mm_T} {k w mc ms d n N : Nat} {Q : mm_O → mm_H → Prop} (C : mm_Ok Z qX12_inside X) (hRm : mt_R X = mm_rm d mc ms) (hd : 6 ≤ d) (hn : n + 1 < 1000000) (hk : k + 1 ≤ mc) (hw : w + 6 ≤ ms) {k92 : Nat → Int32 → Int32 → mm_C → mR Int32} (hk92 : ∀ (v0 : Nat) (v1 : Int32) (v2 : Int32) (c : mm_C), hO 0 ovI n (k92 v0 v1 v2 c) Q → mG Z qX12_inside X k w mc ms Q (92, [(0, .ref v0), (1, .int v1), (2, .int v2)], [], (n, c))) {k114 : Nat → Int32 → Int32 → Int32 → mm_C → mR Int32} (hk114 : ∀ (v0 : Nat) (v1 : Int32) (v2 : Int32) (v3 : Int32) (c : mm_C), hO 0 ovI n (k114 v0 v1 v2 v3 c) Q → mG Z qX12_inside X k w mc ms Q (114, [(0, .ref v0), (1, .int v1), (2, .int v2), (3, .int v3)], [], (n, c))) {v0 : Nat} {v1 : Int32} {v2 : Int32} {v3 : Int32} {s0 : Nat} {s1 : Int32} {s2 : Int32} {c : mm_C} (hf : hO 0 ovI n (bX12_inside_146 N  k92 k114 v0 v1 v2 v3 s0 s1 s2 c) Q) : mG Z qX12_inside X k w mc ms Q (146, [(0, .ref v0), (1, .int v1), (2, .int v2), (3, .int v3)], [.int s2, .int s1, .ref s0], (n, c)) := by
  unfold bX12_inside_146 at hf
  refine mg_ior C rfl ?_
  refine mh_pI C rfl rfl rfl (by decide) rfl rfl rfl hf (fun c1 hf => ?_)
  refine mg_iinc (lv' := [(0, .ref v0), (1, .int v1), (2, .int v2), (3, .int (v3 + 1))]) C rfl (Nat.le_of_ble_eq_true rfl) rfl (show _ + Int32.ofInt 1 = _ + 1 by congr 1) rfl ?_
  refine mg_goto C rfl ?_
  exact hk114 _ _ _ _ _ hf
def bX12_inside_114 (N : Nat)  (k92 : Nat → Int32 → Int32 → mm_C → mR Int32) (k114 : Nat → Int32 → Int32 → Int32 → mm_C → mR Int32) (v0 : Nat) (v1 : Int32) (v2 : Int32) (v3 : Int32) (c : mm_C) : mR Int32 :=
  Option.bind (gR c v0 12 3) fun x1 => Option.bind (aI c x1 (0 : Int32)) fun x2 => if x2 ≤ v3 then (bX12_inside_156 N  k92 v0 v1 v2 c) else (Option.bind (gI c v0 12 43) fun x3 => Option.bind (gR c v0 12 4) fun x4 => Option.bind (aI c x4 v3) fun x5 => if ¬ x5 = (2 : Int32) then (bX12_inside_146 N  k92 k114 v0 v1 v2 v3 v0 x3 ((1 : Int32) <<< (v3 &&& 31)) c) else (bX12_inside_146 N  k92 k114 v0 v1 v2 v3 v0 x3 (0 : Int32) c))
set_option maxRecDepth 100000 in
theorem wX12_inside_114 {Z : mm_Z} {X : mm_T} {k w mc ms d n N : Nat} {Q : mm_O → mm_H → Prop} (C : mm_Ok Z qX12_inside X) (hRm : mt_R X = mm_rm d mc ms) (hd : 6 ≤ d) (hn : n + 1 < 1000000) (hk : k + 1 ≤ mc) (hw : w + 6 ≤ ms) {k92 : Nat → Int32 → Int32 → mm_C → mR Int32} (hk92 : ∀ (v0 : Nat) (v1 : Int32) (v2 : Int32) (c : mm_C), hO 0 ovI n (k92 v0 v1 v2 c) Q → mG Z qX12_inside X k w mc ms Q (92, [(0, .ref v0), (1, .int v1), (2, .int v2)], [], (n, c))) {k114 : Nat → Int32 → Int32 → Int32 → mm_C → mR Int32} (hk114 : ∀ (v0 : Nat) (v1 : Int32) (v2 : Int32) (v3 : Int32) (c : mm_C), hO 0 ovI n (k114 v0 v1 v2 v3 c) Q → mG Z qX12_inside X k w mc ms Q (114, [(0, .ref v0), (1, .int v1), (2, .int v2), (3, .int v3)], [], (n, c))) {v0 : Nat} {v1 : Int32} {v2 : Int32} {v3 : Int32} {c : mm_C} (hf : hO 0 ovI n (bX12_inside_114 N  k92 k114 v0 v1 v2 v3 c) Q) : mG Z qX12_inside X k w mc ms Q (114, [(0, .ref v0), (1, .int v1), (2, .int v2), (3, .int v3)], [], (n, c)) := by
  unfold bX12_inside_114 at hf
  refine mg_iload_n C rfl rfl ?_
  refine mg_aload_n C rfl rfl ?_
  refine mh_gR C rfl rfl rfl (by decide) hf (fun x1 hf => ?_)
  refine mg_iconst (v := 0) C rfl (by decide) ?_
  refine mh_aI C rfl hf (fun x2 hf => ?_)
  refine mh_icmp_ge C rfl hf (fun e_121 hf => ?_) (fun e_121 hf => ?_)
  · refine mg_sub (lv' := [(0, .ref v0), (1, .int v1), (2, .int v2)]) (by simp) ?_
    exact wX12_inside_156 C hRm hd hn hk hw hk92 hf
  · refine mg_aload_n C rfl rfl ?_
    refine mg_dup C rfl rfl ?_
    refine mh_gI C rfl rfl rfl (by decide) hf (fun x3 hf => ?_)
    refine mg_aload_n C rfl rfl ?_
    refine mh_gR C rfl rfl rfl (by decide) hf (fun x4 hf => ?_)
    refine mg_iload_n C rfl rfl ?_
    refine mh_aI C rfl hf (fun x5 hf => ?_)
    refine mg_iconst (v := 2) C rfl (by decide) ?_
    refine mh_icmp_ne C rfl hf (fun e_136 hf => ?_) (fun e_136 hf => ?_)
    · refine mg_iconst (v := 1) C rfl (by decide) ?_
      refine mg_iload_n C rfl rfl ?_
      refine mg_ishl C rfl ?_
      exact wX12_inside_146 C hRm hd hn hk hw hk92 hk114 hf
    · refine mg_iconst (v := 0) C rfl (by decide) ?_
      refine mg_goto C rfl ?_
      exact wX12_inside_146 C hRm hd hn hk hw hk92 hk114 hf
def lX12_inside_114 (N : Nat)  (k92 : Nat → Int32 → Int32 → mm_C → mR Int32) : Nat → Nat → Int32 → Int32 → Int32 → mm_C → mR Int32
  | 0, _, _, _, _, _ => none
  | m + 1, v0, v1, v2, v3, c => bX12_inside_114 N  k92 (lX12_inside_114 N  k92 m) v0 v1 v2 v3 c
theorem WX12_inside_114 {Z : mm_Z} {X : mm_T} {k w mc ms d n N : Nat} {Q : mm_O → mm_H → Prop} (C : mm_Ok Z qX12_inside X) (hRm : mt_R X = mm_rm d mc ms) (hd : 6 ≤ d) (hn : n + 1 < 1000000) (hk : k + 1 ≤ mc) (hw : w + 6 ≤ ms) {k92 : Nat → Int32 → Int32 → mm_C → mR Int32} (hk92 : ∀ (v0 : Nat) (v1 : Int32) (v2 : Int32) (c : mm_C), hO 0 ovI n (k92 v0 v1 v2 c) Q → mG Z qX12_inside X k w mc ms Q (92, [(0, .ref v0), (1, .int v1), (2, .int v2)], [], (n, c))) : ∀ (m : Nat) {v0 : Nat} {v1 : Int32} {v2 : Int32} {v3 : Int32} {c : mm_C} (hf : hO 0 ovI n (lX12_inside_114 N  k92 m v0 v1 v2 v3 c) Q), mG Z qX12_inside X k w mc ms Q (114, [(0, .ref v0), (1, .int v1), (2, .int v2), (3, .int v3)], [], (n, c)) := by
  intro m
  induction m with
  | zero => intro v0 v1 v2 v3 c hf; exact absurd hf hO_none
  | succ m ih => intro v0 v1 v2 v3 c hf; exact wX12_inside_114 C hRm hd hn hk hw hk92 (fun v0 v1 v2 v3 c hf => ih hf) hf
def bX12_inside_92 (N : Nat)  (k92 : Nat → Int32 → Int32 → mm_C → mR Int32) (v0 : Nat) (v1 : Int32) (v2 : Int32) (c : mm_C) : mR Int32 :=
  Option.bind (gR c v0 12 26) fun x1 => Option.bind (aI c x1 (0 : Int32)) fun x2 => if v2 < x2 then (some (.inl (-1 : Int32), c)) else (Option.bind (pI c v0 12 42 v1) fun c3 => Option.bind (pI c3 v0 12 43 (0 : Int32)) fun c4 => lX12_inside_114 N  k92 N v0 v1 v2 (0 : Int32) c4)
set_option maxRecDepth 100000 in
theorem wX12_inside_92 {Z : mm_Z} {X : mm_T} {k w mc ms d n N : Nat} {Q : mm_O → mm_H → Prop} (C : mm_Ok Z qX12_inside X) (hRm : mt_R X = mm_rm d mc ms) (hd : 6 ≤ d) (hn : n + 1 < 1000000) (hk : k + 1 ≤ mc) (hw : w + 6 ≤ ms) {k92 : Nat → Int32 → Int32 → mm_C → mR Int32} (hk92 : ∀ (v0 : Nat) (v1 : Int32) (v2 : Int32) (c : mm_C), hO 0 ovI n (k92 v0 v1 v2 c) Q → mG Z qX12_inside X k w mc ms Q (92, [(0, .ref v0), (1, .int v1), (2, .int v2)], [], (n, c))) {v0 : Nat} {v1 : Int32} {v2 : Int32} {c : mm_C} (hf : hO 0 ovI n (bX12_inside_92 N  k92 v0 v1 v2 c) Q) : mG Z qX12_inside X k w mc ms Q (92, [(0, .ref v0), (1, .int v1), (2, .int v2)], [], (n, c)) := by
  unfold bX12_inside_92 at hf
  refine mg_iload_n C rfl rfl ?_
  refine mg_aload_n C rfl rfl ?_
  refine mh_gR C rfl rfl rfl (by decide) hf (fun x1 hf => ?_)
  refine mg_iconst (v := 0) C rfl (by decide) ?_
  refine mh_aI C rfl hf (fun x2 hf => ?_)
  refine mh_icmp_lt C rfl hf (fun e_99 hf => ?_) (fun e_99 hf => ?_)
  · refine mg_iconst (v := (-1)) C rfl (by decide) ?_
    exact mh_ireturn C rfl (by omega) (by omega) rfl hf
  · refine mg_aload_n C rfl rfl ?_
    refine mg_iload_n C rfl rfl ?_
    refine mh_pI C rfl rfl rfl (by decide) rfl rfl rfl hf (fun c3 hf => ?_)
    refine mg_aload_n C rfl rfl ?_
    refine mg_iconst (v := 0) C rfl (by decide) ?_
    refine mh_pI C rfl rfl rfl (by decide) rfl rfl rfl hf (fun c4 hf => ?_)
    refine mg_iconst (v := 0) C rfl (by decide) ?_
    refine mg_istore_n (lv' := [(0, .ref v0), (1, .int v1), (2, .int v2), (3, .int (0 : Int32))]) C rfl (Nat.le_of_ble_eq_true rfl) rfl ?_
    exact WX12_inside_114 C hRm hd hn hk hw hk92 N hf
def lX12_inside_92 (N : Nat)  : Nat → Nat → Int32 → Int32 → mm_C → mR Int32
  | 0, _, _, _, _ => none
  | m + 1, v0, v1, v2, c => bX12_inside_92 N  (lX12_inside_92 N  m) v0 v1 v2 c
theorem WX12_inside_92 {Z : mm_Z} {X : mm_T} {k w mc ms d n N : Nat} {Q : mm_O → mm_H → Prop} (C : mm_Ok Z qX12_inside X) (hRm : mt_R X = mm_rm d mc ms) (hd : 6 ≤ d) (hn : n + 1 < 1000000) (hk : k + 1 ≤ mc) (hw : w + 6 ≤ ms) : ∀ (m : Nat) {v0 : Nat} {v1 : Int32} {v2 : Int32} {c : mm_C} (hf : hO 0 ovI n (lX12_inside_92 N  m v0 v1 v2 c) Q), mG Z qX12_inside X k w mc ms Q (92, [(0, .ref v0), (1, .int v1), (2, .int v2)], [], (n, c)) := by
  intro m
  induction m with
  | zero => intro v0 v1 v2 c hf; exact absurd hf hO_none
  | succ m ih => intro v0 v1 v2 c hf; exact wX12_inside_92 C hRm hd hn hk hw (fun v0 v1 v2 c hf => ih hf) hf
def bX12_inside_62 (N : Nat)  (v0 : Nat) (v1 : Int32) (c : mm_C) : mR Int32 :=
  if v1 = 0 then (some (.inl (-1 : Int32), c)) else (Option.bind (gR c v0 12 26) fun x1 => Option.bind (aI c x1 (1 : Int32)) fun x2 => if ¬ x2 = (1 : Int32) then (Option.bind (gR c v0 12 3) fun x3 => Option.bind (aI c x3 (1 : Int32)) fun x4 => Option.bind (gR c v0 12 3) fun x5 => Option.bind (aI c x5 (2 : Int32)) fun x6 => lX12_inside_92 N  N v0 v1 (x4 - x6) c) else (some (.inl (-1 : Int32), c)))
set_option maxRecDepth 100000 in
theorem wX12_inside_62 {Z : mm_Z} {X : mm_T} {k w mc ms d n N : Nat} {Q : mm_O → mm_H → Prop} (C : mm_Ok Z qX12_inside X) (hRm : mt_R X = mm_rm d mc ms) (hd : 6 ≤ d) (hn : n + 1 < 1000000) (hk : k + 1 ≤ mc) (hw : w + 6 ≤ ms) {v0 : Nat} {v1 : Int32} {c : mm_C} (hf : hO 0 ovI n (bX12_inside_62 N  v0 v1 c) Q) : mG Z qX12_inside X k w mc ms Q (62, [(0, .ref v0), (1, .int v1)], [], (n, c)) := by
  unfold bX12_inside_62 at hf
  refine mg_iload_n C rfl rfl ?_
  refine mh_if_eq C rfl hf (fun e_63 hf => ?_) (fun e_63 hf => ?_)
  · refine mg_iconst (v := (-1)) C rfl (by decide) ?_
    exact mh_ireturn C rfl (by omega) (by omega) rfl hf
  · refine mg_aload_n C rfl rfl ?_
    refine mh_gR C rfl rfl rfl (by decide) hf (fun x1 hf => ?_)
    refine mg_iconst (v := 1) C rfl (by decide) ?_
    refine mh_aI C rfl hf (fun x2 hf => ?_)
    refine mg_iconst (v := 1) C rfl (by decide) ?_
    refine mh_icmp_ne C rfl hf (fun e_73 hf => ?_) (fun e_73 hf => ?_)
    · refine mg_aload_n C rfl rfl ?_
      refine mh_gR C rfl rfl rfl (by decide) hf (fun x3 hf => ?_)
      refine mg_iconst (v := 1) C rfl (by decide) ?_
      refine mh_aI C rfl hf (fun x4 hf => ?_)
      refine mg_aload_n C rfl rfl ?_
      refine mh_gR C rfl rfl rfl (by decide) hf (fun x5 hf => ?_)
      refine mg_iconst (v := 2) C rfl (by decide) ?_
      refine mh_aI C rfl hf (fun x6 hf => ?_)
      refine mg_isub C rfl ?_
      refine mg_istore_n (lv' := [(0, .ref v0), (1, .int v1), (2, .int (x4 - x6))]) C rfl (Nat.le_of_ble_eq_true rfl) rfl ?_
      exact WX12_inside_92 C hRm hd hn hk hw N hf
    · refine mg_iconst (v := (-1)) C rfl (by decide) ?_
      exact mh_ireturn C rfl (by omega) (by omega) rfl hf
def bX12_inside_54 (N : Nat)  (k13 : Nat → Int32 → Int32 → mm_C → mR Int32) (v0 : Nat) (v2 : Int32) (s0 : Int32) (s1 : Int32) (c : mm_C) : mR Int32 :=
  k13 v0 (s0 ||| s1) (v2 + 1) c
set_option maxRecDepth 100000 in
theorem wX12_inside_54 {Z : mm_Z} {X : mm_T} {k w mc ms d n N : Nat} {Q : mm_O → mm_H → Prop} (C : mm_Ok Z qX12_inside X) (hRm : mt_R X = mm_rm d mc ms) (hd : 6 ≤ d) (hn : n + 1 < 1000000) (hk : k + 1 ≤ mc) (hw : w + 6 ≤ ms) {k13 : Nat → Int32 → Int32 → mm_C → mR Int32} (hk13 : ∀ (v0 : Nat) (v1 : Int32) (v2 : Int32) (c : mm_C), hO 0 ovI n (k13 v0 v1 v2 c) Q → mG Z qX12_inside X k w mc ms Q (13, [(0, .ref v0), (1, .int v1), (2, .int v2)], [], (n, c))) {v0 : Nat} {v2 : Int32} {s0 : Int32} {s1 : Int32} {c : mm_C} (hf : hO 0 ovI n (bX12_inside_54 N  k13 v0 v2 s0 s1 c) Q) : mG Z qX12_inside X k w mc ms Q (54, [(0, .ref v0), (2, .int v2)], [.int s1, .int s0], (n, c)) := by
  unfold bX12_inside_54 at hf
  refine mg_ior C rfl ?_
  refine mg_istore_n (lv' := [(0, .ref v0), (1, .int (s0 ||| s1)), (2, .int v2)]) C rfl (Nat.le_of_ble_eq_true rfl) rfl ?_
  refine mg_iinc (lv' := [(0, .ref v0), (1, .int (s0 ||| s1)), (2, .int (v2 + 1))]) C rfl (Nat.le_of_ble_eq_true rfl) rfl (show _ + Int32.ofInt 1 = _ + 1 by congr 1) rfl ?_
  refine mg_goto C rfl ?_
  exact hk13 _ _ _ _ hf
def bX12_inside_53 (N : Nat)  (k13 : Nat → Int32 → Int32 → mm_C → mR Int32) (v0 : Nat) (v2 : Int32) (s0 : Int32) (c : mm_C) : mR Int32 :=
  bX12_inside_54 N  k13 v0 v2 s0 (0 : Int32) c
set_option maxRecDepth 100000 in
theorem wX12_inside_53 {Z : mm_Z} {X : mm_T} {k w mc ms d n N : Nat} {Q : mm_O → mm_H → Prop} (C : mm_Ok Z qX12_inside X) (hRm : mt_R X = mm_rm d mc ms) (hd : 6 ≤ d) (hn : n + 1 < 1000000) (hk : k + 1 ≤ mc) (hw : w + 6 ≤ ms) {k13 : Nat → Int32 → Int32 → mm_C → mR Int32} (hk13 : ∀ (v0 : Nat) (v1 : Int32) (v2 : Int32) (c : mm_C), hO 0 ovI n (k13 v0 v1 v2 c) Q → mG Z qX12_inside X k w mc ms Q (13, [(0, .ref v0), (1, .int v1), (2, .int v2)], [], (n, c))) {v0 : Nat} {v2 : Int32} {s0 : Int32} {c : mm_C} (hf : hO 0 ovI n (bX12_inside_53 N  k13 v0 v2 s0 c) Q) : mG Z qX12_inside X k w mc ms Q (53, [(0, .ref v0), (2, .int v2)], [.int s0], (n, c)) := by
  unfold bX12_inside_53 at hf
  refine mg_iconst (v := 0) C rfl (by decide) ?_
  exact wX12_inside_54 C hRm hd hn hk hw hk13 hf
def bX12_inside_13 (N : Nat)  (k13 : Nat → Int32 → Int32 → mm_C → mR Int32) (v0 : Nat) (v1 : Int32) (v2 : Int32) (c : mm_C) : mR Int32 :=
  Option.bind (gR c v0 12 3) fun x1 => Option.bind (aI c x1 (0 : Int32)) fun x2 => if x2 ≤ v2 then (bX12_inside_62 N  v0 v1 c) else (Option.bind (gR c v0 12 4) fun x3 => Option.bind (aI c x3 v2) fun x4 => if ¬ x4 = (2 : Int32) then (bX12_inside_53 N  k13 v0 v2 v1 c) else (Option.bind (gR c v0 12 26) fun x5 => Option.bind (aI c x5 (2 : Int32)) fun x6 => cS (fX12_isOf N x6 v2 c) fun r7 c8 => if ¬ r7 = 0 then (bX12_inside_53 N  k13 v0 v2 v1 c8) else (bX12_inside_54 N  k13 v0 v2 v1 ((1 : Int32) <<< (v2 &&& 31)) c8)))
set_option maxRecDepth 100000 in
theorem wX12_inside_13 {Z : mm_Z} {X : mm_T} {k w mc ms d n N : Nat} {Q : mm_O → mm_H → Prop} (C : mm_Ok Z qX12_inside X) (hRm : mt_R X = mm_rm d mc ms) (hd : 6 ≤ d) (hn : n + 1 < 1000000) (hk : k + 1 ≤ mc) (hw : w + 6 ≤ ms) {k13 : Nat → Int32 → Int32 → mm_C → mR Int32} (hk13 : ∀ (v0 : Nat) (v1 : Int32) (v2 : Int32) (c : mm_C), hO 0 ovI n (k13 v0 v1 v2 c) Q → mG Z qX12_inside X k w mc ms Q (13, [(0, .ref v0), (1, .int v1), (2, .int v2)], [], (n, c))) {v0 : Nat} {v1 : Int32} {v2 : Int32} {c : mm_C} (hf : hO 0 ovI n (bX12_inside_13 N  k13 v0 v1 v2 c) Q) : mG Z qX12_inside X k w mc ms Q (13, [(0, .ref v0), (1, .int v1), (2, .int v2)], [], (n, c)) := by
  unfold bX12_inside_13 at hf
  refine mg_iload_n C rfl rfl ?_
  refine mg_aload_n C rfl rfl ?_
  refine mh_gR C rfl rfl rfl (by decide) hf (fun x1 hf => ?_)
  refine mg_iconst (v := 0) C rfl (by decide) ?_
  refine mh_aI C rfl hf (fun x2 hf => ?_)
  refine mh_icmp_ge C rfl hf (fun e_20 hf => ?_) (fun e_20 hf => ?_)
  · refine mg_sub (lv' := [(0, .ref v0), (1, .int v1)]) (by simp) ?_
    exact wX12_inside_62 C hRm hd hn hk hw hf
  · refine mg_iload_n C rfl rfl ?_
    refine mg_aload_n C rfl rfl ?_
    refine mh_gR C rfl rfl rfl (by decide) hf (fun x3 hf => ?_)
    refine mg_iload_n C rfl rfl ?_
    refine mh_aI C rfl hf (fun x4 hf => ?_)
    refine mg_iconst (v := 2) C rfl (by decide) ?_
    refine mh_icmp_ne C rfl hf (fun e_31 hf => ?_) (fun e_31 hf => ?_)
    · refine mg_sub (lv' := [(0, .ref v0), (2, .int v2)]) (by simp) ?_
      exact wX12_inside_53 C hRm hd hn hk hw hk13 hf
    · refine mg_aload_n C rfl rfl ?_
      refine mh_gR C rfl rfl rfl (by decide) hf (fun x5 hf => ?_)
      refine mg_iconst (v := 2) C rfl (by decide) ?_
      refine mh_aI C rfl hf (fun x6 hf => ?_)
      refine mg_iload_n C rfl rfl ?_
      refine mh_cSI (M' := qX12_isOf) C rfl rfl aX12_isOf tX12_isOf hRm (by omega) (by decide) (by omega) (by omega) rfl rfl (Nat.le_of_ble_eq_true rfl) rfl hf (fun hs => wX12_isOf (by omega) (by omega) hs) (fun r7 c8 hf => ?_)
      refine mh_if_ne C rfl hf (fun e_44 hf => ?_) (fun e_44 hf => ?_)
      · refine mg_sub (lv' := [(0, .ref v0), (2, .int v2)]) (by simp) ?_
        exact wX12_inside_53 C hRm hd hn hk hw hk13 hf
      · refine mg_iconst (v := 1) C rfl (by decide) ?_
        refine mg_iload_n C rfl rfl ?_
        refine mg_ishl C rfl ?_
        refine mg_goto C rfl ?_
        refine mg_sub (lv' := [(0, .ref v0), (2, .int v2)]) (by simp) ?_
        exact wX12_inside_54 C hRm hd hn hk hw hk13 hf
def lX12_inside_13 (N : Nat)  : Nat → Nat → Int32 → Int32 → mm_C → mR Int32
  | 0, _, _, _, _ => none
  | m + 1, v0, v1, v2, c => bX12_inside_13 N  (lX12_inside_13 N  m) v0 v1 v2 c
theorem WX12_inside_13 {Z : mm_Z} {X : mm_T} {k w mc ms d n N : Nat} {Q : mm_O → mm_H → Prop} (C : mm_Ok Z qX12_inside X) (hRm : mt_R X = mm_rm d mc ms) (hd : 6 ≤ d) (hn : n + 1 < 1000000) (hk : k + 1 ≤ mc) (hw : w + 6 ≤ ms) : ∀ (m : Nat) {v0 : Nat} {v1 : Int32} {v2 : Int32} {c : mm_C} (hf : hO 0 ovI n (lX12_inside_13 N  m v0 v1 v2 c) Q), mG Z qX12_inside X k w mc ms Q (13, [(0, .ref v0), (1, .int v1), (2, .int v2)], [], (n, c)) := by
  intro m
  induction m with
  | zero => intro v0 v1 v2 c hf; exact absurd hf hO_none
  | succ m ih => intro v0 v1 v2 c hf; exact wX12_inside_13 C hRm hd hn hk hw (fun v0 v1 v2 c hf => ih hf) hf
def bX12_inside_0 (N : Nat)  (v0 : Nat) (c : mm_C) : mR Int32 :=
  Option.bind (pI c v0 12 2 (0 : Int32)) fun c1 => cV 12 v0 c1 (fX12_set N v0 c1) fun (_ : Unit) c2 => lX12_inside_13 N  N v0 (0 : Int32) (0 : Int32) c2
set_option maxRecDepth 100000 in
theorem wX12_inside_0 {Z : mm_Z} {X : mm_T} {k w mc ms d n N : Nat} {Q : mm_O → mm_H → Prop} (C : mm_Ok Z qX12_inside X) (hRm : mt_R X = mm_rm d mc ms) (hd : 6 ≤ d) (hn : n + 1 < 1000000) (hk : k + 1 ≤ mc) (hw : w + 6 ≤ ms) {v0 : Nat} {c : mm_C} (hf : hO 0 ovI n (bX12_inside_0 N  v0 c) Q) : mG Z qX12_inside X k w mc ms Q (0, [(0, .ref v0)], [], (n, c)) := by
  unfold bX12_inside_0 at hf
  refine mg_aload_n C rfl rfl ?_
  refine mg_iconst (v := 0) C rfl (by decide) ?_
  refine mh_pI C rfl rfl rfl (by decide) rfl rfl rfl hf (fun c1 hf => ?_)
  refine mg_aload_n C rfl rfl ?_
  refine mh_cVU (M' := qX12_set) C rfl rfl aX12_set iX12_set sX12_set hRm (by omega) (by decide) (by omega) (by omega) rfl rfl rfl (Nat.le_of_ble_eq_true rfl) rfl hf (fun hs => wX12_set (by omega) (by omega) hs) (fun c2 hf => ?_)
  refine mg_iconst (v := 0) C rfl (by decide) ?_
  refine mg_istore_n (lv' := [(0, .ref v0), (1, .int (0 : Int32))]) C rfl (Nat.le_of_ble_eq_true rfl) rfl ?_
  refine mg_iconst (v := 0) C rfl (by decide) ?_
  refine mg_istore_n (lv' := [(0, .ref v0), (1, .int (0 : Int32)), (2, .int (0 : Int32))]) C rfl (Nat.le_of_ble_eq_true rfl) rfl ?_
  exact WX12_inside_13 C hRm hd hn hk hw N hf
def fX12_inside (N : Nat) (v0 : Nat) (c : mm_C) : mR Int32 := bX12_inside_0 N v0 c
set_option maxRecDepth 100000 in
theorem wX12_inside {Z : mm_Z} {d n N : Nat} (hd : 6 ≤ d) (hn : n + 1 < 1000000) {v0 : Nat} {c : mm_C} (hs : (fX12_inside N v0 c).isSome = true) : mC Z qX12_inside d 1 6 [.ref v0] (n, c) (mP 0 ovI n (fX12_inside N v0 c)) := by
  refine mC_of gX12_inside (by decide +kernel) (Nat.le_of_ble_eq_true rfl) fun X C hRm => ?_
  have hf := hO_mP 0 ovI n hs
  have hk : 0 + 1 ≤ 1 := Nat.le_of_ble_eq_true rfl
  have hw : 0 + 6 ≤ 6 := Nat.le_of_ble_eq_true rfl
  show mG _ _ _ _ _ _ _ _ (0, [(0, .ref v0)], [], (n, c))
  exact wX12_inside_0 C hRm hd hn hk hw hf
def bX12_worth_89 (N : Nat)  (v0 : Nat) (v1 : Int32) (v2 : Int32) (v3 : Int32) (c : mm_C) : mR Int32 :=
  Option.bind (gR c v0 12 26) fun x1 => Option.bind (tI c x1 ((5 : Int32) + v1) v2) fun c2 => some (.inl v3, c2)
set_option maxRecDepth 100000 in
theorem wX12_worth_89 {Z : mm_Z} {X : mm_T} {k w mc ms d n N : Nat} {Q : mm_O → mm_H → Prop} (C : mm_Ok Z qX12_worth X) (hRm : mt_R X = mm_rm d mc ms) (hd : 8 ≤ d) (hn : n + 1 < 1000000) (hk : k + 1 ≤ mc) (hw : w + 6 ≤ ms) {v0 : Nat} {v1 : Int32} {v2 : Int32} {v3 : Int32} {c : mm_C} (hf : hO 0 ovI n (bX12_worth_89 N  v0 v1 v2 v3 c) Q) : mG Z qX12_worth X k w mc ms Q (89, [(0, .ref v0), (1, .int v1), (2, .int v2), (3, .int v3)], [], (n, c)) := by
  unfold bX12_worth_89 at hf
  refine mg_aload_n C rfl rfl ?_
  refine mh_gR C rfl rfl rfl (by decide) hf (fun x1 hf => ?_)
  refine mg_iconst (v := 5) C rfl (by decide) ?_
  refine mg_iload_n C rfl rfl ?_
  refine mg_iadd C rfl ?_
  refine mg_iload_n C rfl rfl ?_
  refine mh_tI C rfl hf (fun c2 hf => ?_)
  refine mg_iload_n C rfl rfl ?_
  exact mh_ireturn C rfl (by omega) (by omega) rfl hf
def bX12_worth_81 (N : Nat)  (k38 : Nat → Int32 → Int32 → Int32 → Int32 → mm_C → mR Int32) (v0 : Nat) (v1 : Int32) (v2 : Int32) (v4 : Int32) (s0 : Int32) (s1 : Int32) (c : mm_C) : mR Int32 :=
  k38 v0 v1 v2 (s0 + s1) (v4 + 1) c
set_option maxRecDepth 100000 in
theorem wX12_worth_81 {Z : mm_Z} {X : mm_T} {k w mc ms d n N : Nat} {Q : mm_O → mm_H → Prop} (C : mm_Ok Z qX12_worth X) (hRm : mt_R X = mm_rm d mc ms) (hd : 8 ≤ d) (hn : n + 1 < 1000000) (hk : k + 1 ≤ mc) (hw : w + 6 ≤ ms) {k38 : Nat → Int32 → Int32 → Int32 → Int32 → mm_C → mR Int32} (hk38 : ∀ (v0 : Nat) (v1 : Int32) (v2 : Int32) (v3 : Int32) (v4 : Int32) (c : mm_C), hO 0 ovI n (k38 v0 v1 v2 v3 v4 c) Q → mG Z qX12_worth X k w mc ms Q (38, [(0, .ref v0), (1, .int v1), (2, .int v2), (3, .int v3), (4, .int v4)], [], (n, c))) {v0 : Nat} {v1 : Int32} {v2 : Int32} {v4 : Int32} {s0 : Int32} {s1 : Int32} {c : mm_C} (hf : hO 0 ovI n (bX12_worth_81 N  k38 v0 v1 v2 v4 s0 s1 c) Q) : mG Z qX12_worth X k w mc ms Q (81, [(0, .ref v0), (1, .int v1), (2, .int v2), (4, .int v4)], [.int s1, .int s0], (n, c)) := by
  unfold bX12_worth_81 at hf
  refine mg_iadd C rfl ?_
  refine mg_istore_n (lv' := [(0, .ref v0), (1, .int v1), (2, .int v2), (3, .int (s0 + s1)), (4, .int v4)]) C rfl (Nat.le_of_ble_eq_true rfl) rfl ?_
  refine mg_iinc (lv' := [(0, .ref v0), (1, .int v1), (2, .int v2), (3, .int (s0 + s1)), (4, .int (v4 + 1))]) C rfl (Nat.le_of_ble_eq_true rfl) rfl (show _ + Int32.ofInt 1 = _ + 1 by congr 1) rfl ?_
  refine mg_goto C rfl ?_
  exact hk38 _ _ _ _ _ _ hf
def bX12_worth_38 (N : Nat)  (k38 : Nat → Int32 → Int32 → Int32 → Int32 → mm_C → mR Int32) (v0 : Nat) (v1 : Int32) (v2 : Int32) (v3 : Int32) (v4 : Int32) (c : mm_C) : mR Int32 :=
  if (2 : Int32) ≤ v4 then (bX12_worth_89 N  v0 v1 v2 v3 c) else (Option.bind (gR c v0 12 26) fun x1 => Option.bind (tI c x1 ((5 : Int32) + v1) v4) fun c2 => if ¬ v4 = (1 : Int32) then (cV 12 v0 c2 (fX12_all N v0 c2) fun r3 c4 => cV 12 v0 c4 (fX12_mostOf N v0 r3 c4) fun r5 c6 => bX12_worth_81 N  k38 v0 v1 v2 v4 v3 (-r5) c6) else (cV 12 v0 c2 (fX12_all N v0 c2) fun r7 c8 => cV 12 v0 c8 (fX12_mostOf N v0 r7 c8) fun r9 c10 => bX12_worth_81 N  k38 v0 v1 v2 v4 v3 r9 c10))
set_option maxRecDepth 100000 in
theorem wX12_worth_38 {Z : mm_Z} {X : mm_T} {k w mc ms d n N : Nat} {Q : mm_O → mm_H → Prop} (C : mm_Ok Z qX12_worth X) (hRm : mt_R X = mm_rm d mc ms) (hd : 8 ≤ d) (hn : n + 1 < 1000000) (hk : k + 1 ≤ mc) (hw : w + 6 ≤ ms) {k38 : Nat → Int32 → Int32 → Int32 → Int32 → mm_C → mR Int32} (hk38 : ∀ (v0 : Nat) (v1 : Int32) (v2 : Int32) (v3 : Int32) (v4 : Int32) (c : mm_C), hO 0 ovI n (k38 v0 v1 v2 v3 v4 c) Q → mG Z qX12_worth X k w mc ms Q (38, [(0, .ref v0), (1, .int v1), (2, .int v2), (3, .int v3), (4, .int v4)], [], (n, c))) {v0 : Nat} {v1 : Int32} {v2 : Int32} {v3 : Int32} {v4 : Int32} {c : mm_C} (hf : hO 0 ovI n (bX12_worth_38 N  k38 v0 v1 v2 v3 v4 c) Q) : mG Z qX12_worth X k w mc ms Q (38, [(0, .ref v0), (1, .int v1), (2, .int v2), (3, .int v3), (4, .int v4)], [], (n, c)) := by
  unfold bX12_worth_38 at hf
  refine mg_iload C rfl rfl ?_
  refine mg_iconst (v := 2) C rfl (by decide) ?_
  refine mh_icmp_ge C rfl hf (fun e_41 hf => ?_) (fun e_41 hf => ?_)
  · refine mg_sub (lv' := [(0, .ref v0), (1, .int v1), (2, .int v2), (3, .int v3)]) (by simp) ?_
    exact wX12_worth_89 C hRm hd hn hk hw hf
  · refine mg_aload_n C rfl rfl ?_
    refine mh_gR C rfl rfl rfl (by decide) hf (fun x1 hf => ?_)
    refine mg_iconst (v := 5) C rfl (by decide) ?_
    refine mg_iload_n C rfl rfl ?_
    refine mg_iadd C rfl ?_
    refine mg_iload C rfl rfl ?_
    refine mh_tI C rfl hf (fun c2 hf => ?_)
    refine mg_iload_n C rfl rfl ?_
    refine mg_iload C rfl rfl ?_
    refine mg_iconst (v := 1) C rfl (by decide) ?_
    refine mh_icmp_ne C rfl hf (fun e_58 hf => ?_) (fun e_58 hf => ?_)
    · refine mg_aload_n C rfl rfl ?_
      refine mg_aload_n C rfl rfl ?_
      refine mh_cVI (M' := qX12_all) C rfl rfl aX12_all iX12_all sX12_all hRm (by omega) (by decide) (by omega) (by omega) rfl rfl rfl (Nat.le_of_ble_eq_true rfl) rfl hf (fun hs => wX12_all (by omega) (by omega) hs) (fun r3 c4 hf => ?_)
      refine mh_cVI (M' := qX12_mostOf) C rfl rfl aX12_mostOf iX12_mostOf sX12_mostOf hRm (by omega) (by decide) (by omega) (by omega) rfl rfl rfl (Nat.le_of_ble_eq_true rfl) rfl hf (fun hs => wX12_mostOf (by omega) (by omega) hs) (fun r5 c6 hf => ?_)
      refine mg_ineg C rfl ?_
      refine mg_sub (lv' := [(0, .ref v0), (1, .int v1), (2, .int v2), (4, .int v4)]) (by simp) ?_
      exact wX12_worth_81 C hRm hd hn hk hw hk38 hf
    · refine mg_aload_n C rfl rfl ?_
      refine mg_aload_n C rfl rfl ?_
      refine mh_cVI (M' := qX12_all) C rfl rfl aX12_all iX12_all sX12_all hRm (by omega) (by decide) (by omega) (by omega) rfl rfl rfl (Nat.le_of_ble_eq_true rfl) rfl hf (fun hs => wX12_all (by omega) (by omega) hs) (fun r7 c8 hf => ?_)
      refine mh_cVI (M' := qX12_mostOf) C rfl rfl aX12_mostOf iX12_mostOf sX12_mostOf hRm (by omega) (by decide) (by omega) (by omega) rfl rfl rfl (Nat.le_of_ble_eq_true rfl) rfl hf (fun hs => wX12_mostOf (by omega) (by omega) hs) (fun r9 c10 hf => ?_)
      refine mg_goto C rfl ?_
      refine mg_sub (lv' := [(0, .ref v0), (1, .int v1), (2, .int v2), (4, .int v4)]) (by simp) ?_
      exact wX12_worth_81 C hRm hd hn hk hw hk38 hf
def lX12_worth_38 (N : Nat)  : Nat → Nat → Int32 → Int32 → Int32 → Int32 → mm_C → mR Int32
  | 0, _, _, _, _, _, _ => none
  | m + 1, v0, v1, v2, v3, v4, c => bX12_worth_38 N  (lX12_worth_38 N  m) v0 v1 v2 v3 v4 c
theorem WX12_worth_38 {Z : mm_Z} {X : mm_T} {k w mc ms d n N : Nat} {Q : mm_O → mm_H → Prop} (C : mm_Ok Z qX12_worth X) (hRm : mt_R X = mm_rm d mc ms) (hd : 8 ≤ d) (hn : n + 1 < 1000000) (hk : k + 1 ≤ mc) (hw : w + 6 ≤ ms) : ∀ (m : Nat) {v0 : Nat} {v1 : Int32} {v2 : Int32} {v3 : Int32} {v4 : Int32} {c : mm_C} (hf : hO 0 ovI n (lX12_worth_38 N  m v0 v1 v2 v3 v4 c) Q), mG Z qX12_worth X k w mc ms Q (38, [(0, .ref v0), (1, .int v1), (2, .int v2), (3, .int v3), (4, .int v4)], [], (n, c)) := by
  intro m
  induction m with
  | zero => intro v0 v1 v2 v3 v4 c hf; exact absurd hf hO_none
  | succ m ih => intro v0 v1 v2 v3 v4 c hf; exact wX12_worth_38 C hRm hd hn hk hw (fun v0 v1 v2 v3 v4 c hf => ih hf) hf
def bX12_worth_14 (N : Nat)  (v0 : Nat) (c : mm_C) : mR Int32 :=
  cV 12 v0 c (fX12_fail N v0 (1 : Int32) c) fun r1 c2 => some (.inl r1, c2)
set_option maxRecDepth 100000 in
theorem wX12_worth_14 {Z : mm_Z} {X : mm_T} {k w mc ms d n N : Nat} {Q : mm_O → mm_H → Prop} (C : mm_Ok Z qX12_worth X) (hRm : mt_R X = mm_rm d mc ms) (hd : 8 ≤ d) (hn : n + 1 < 1000000) (hk : k + 1 ≤ mc) (hw : w + 6 ≤ ms) {v0 : Nat} {c : mm_C} (hf : hO 0 ovI n (bX12_worth_14 N  v0 c) Q) : mG Z qX12_worth X k w mc ms Q (14, [(0, .ref v0)], [], (n, c)) := by
  unfold bX12_worth_14 at hf
  refine mg_aload_n C rfl rfl ?_
  refine mg_iconst (v := 1) C rfl (by decide) ?_
  refine mh_cVI (M' := qX12_fail) C rfl rfl aX12_fail iX12_fail sX12_fail hRm (by omega) (by decide) (by omega) (by omega) rfl rfl rfl (Nat.le_of_ble_eq_true rfl) rfl hf (fun hs => wX12_fail (by omega) (by omega) hs) (fun r1 c2 hf => ?_)
  exact mh_ireturn C rfl (by omega) (by omega) rfl hf
def bX12_worth_0 (N : Nat)  (v0 : Nat) (v1 : Int32) (c : mm_C) : mR Int32 :=
  Option.bind (pI c v0 12 2 (0 : Int32)) fun c1 => if v1 < 0 then (bX12_worth_14 N  v0 c1) else (if v1 ≤ (1 : Int32) then (cV 12 v0 c1 (fX12_set N v0 c1) fun (_ : Unit) c2 => Option.bind (gR c2 v0 12 26) fun x3 => Option.bind (aI c2 x3 ((5 : Int32) + v1)) fun x4 => lX12_worth_38 N  N v0 v1 x4 (0 : Int32) (0 : Int32) c2) else (bX12_worth_14 N  v0 c1))
set_option maxRecDepth 100000 in
theorem wX12_worth_0 {Z : mm_Z} {X : mm_T} {k w mc ms d n N : Nat} {Q : mm_O → mm_H → Prop} (C : mm_Ok Z qX12_worth X) (hRm : mt_R X = mm_rm d mc ms) (hd : 8 ≤ d) (hn : n + 1 < 1000000) (hk : k + 1 ≤ mc) (hw : w + 6 ≤ ms) {v0 : Nat} {v1 : Int32} {c : mm_C} (hf : hO 0 ovI n (bX12_worth_0 N  v0 v1 c) Q) : mG Z qX12_worth X k w mc ms Q (0, [(0, .ref v0), (1, .int v1)], [], (n, c)) := by
  unfold bX12_worth_0 at hf
  refine mg_aload_n C rfl rfl ?_
  refine mg_iconst (v := 0) C rfl (by decide) ?_
  refine mh_pI C rfl rfl rfl (by decide) rfl rfl rfl hf (fun c1 hf => ?_)
  refine mg_iload_n C rfl rfl ?_
  refine mh_if_lt C rfl hf (fun e_6 hf => ?_) (fun e_6 hf => ?_)
  · refine mg_sub (lv' := [(0, .ref v0)]) (by simp) ?_
    exact wX12_worth_14 C hRm hd hn hk hw hf
  · refine mg_iload_n C rfl rfl ?_
    refine mg_iconst (v := 1) C rfl (by decide) ?_
    refine mh_icmp_le C rfl hf (fun e_11 hf => ?_) (fun e_11 hf => ?_)
    · refine mg_aload_n C rfl rfl ?_
      refine mh_cVU (M' := qX12_set) C rfl rfl aX12_set iX12_set sX12_set hRm (by omega) (by decide) (by omega) (by omega) rfl rfl rfl (Nat.le_of_ble_eq_true rfl) rfl hf (fun hs => wX12_set (by omega) (by omega) hs) (fun c2 hf => ?_)
      refine mg_aload_n C rfl rfl ?_
      refine mh_gR C rfl rfl rfl (by decide) hf (fun x3 hf => ?_)
      refine mg_iconst (v := 5) C rfl (by decide) ?_
      refine mg_iload_n C rfl rfl ?_
      refine mg_iadd C rfl ?_
      refine mh_aI C rfl hf (fun x4 hf => ?_)
      refine mg_istore_n (lv' := [(0, .ref v0), (1, .int v1), (2, .int x4)]) C rfl (Nat.le_of_ble_eq_true rfl) rfl ?_
      refine mg_iconst (v := 0) C rfl (by decide) ?_
      refine mg_istore_n (lv' := [(0, .ref v0), (1, .int v1), (2, .int x4), (3, .int (0 : Int32))]) C rfl (Nat.le_of_ble_eq_true rfl) rfl ?_
      refine mg_iconst (v := 0) C rfl (by decide) ?_
      refine mg_istore (lv' := [(0, .ref v0), (1, .int v1), (2, .int x4), (3, .int (0 : Int32)), (4, .int (0 : Int32))]) C rfl (Nat.le_of_ble_eq_true rfl) rfl ?_
      exact WX12_worth_38 C hRm hd hn hk hw N hf
    · refine mg_sub (lv' := [(0, .ref v0)]) (by simp) ?_
      exact wX12_worth_14 C hRm hd hn hk hw hf
def fX12_worth (N : Nat) (v0 : Nat) (v1 : Int32) (c : mm_C) : mR Int32 := bX12_worth_0 N v0 v1 c
set_option maxRecDepth 100000 in
theorem wX12_worth {Z : mm_Z} {d n N : Nat} (hd : 8 ≤ d) (hn : n + 1 < 1000000) {v0 : Nat} {v1 : Int32} {c : mm_C} (hs : (fX12_worth N v0 v1 c).isSome = true) : mC Z qX12_worth d 1 6 [.ref v0, .int v1] (n, c) (mP 0 ovI n (fX12_worth N v0 v1 c)) := by
  refine mC_of gX12_worth (by decide +kernel) (Nat.le_of_ble_eq_true rfl) fun X C hRm => ?_
  have hf := hO_mP 0 ovI n hs
  have hk : 0 + 1 ≤ 1 := Nat.le_of_ble_eq_true rfl
  have hw : 0 + 6 ≤ 6 := Nat.le_of_ble_eq_true rfl
  show mG _ _ _ _ _ _ _ _ (0, [(0, .ref v0), (1, .int v1)], [], (n, c))
  exact wX12_worth_0 C hRm hd hn hk hw hf
def bX12_chances_93 (N : Nat)  (v2 : Int32) (v3 : Int32) (v4 : Int32) (c : mm_C) : mR Int32 :=
  if ¬ v2 = 0 then (some (.inl v4, c)) else (some (.inl v3, c))
set_option maxRecDepth 100000 in
theorem wX12_chances_93 {Z : mm_Z} {X : mm_T} {k w mc ms d n N : Nat} {Q : mm_O → mm_H → Prop} (C : mm_Ok Z qX12_chances X) (hRm : mt_R X = mm_rm d mc ms) (hd : 4 ≤ d) (hn : n + 1 < 1000000) (hk : k + 1 ≤ mc) (hw : w + 6 ≤ ms) {v2 : Int32} {v3 : Int32} {v4 : Int32} {c : mm_C} (hf : hO 0 ovI n (bX12_chances_93 N  v2 v3 v4 c) Q) : mG Z qX12_chances X k w mc ms Q (93, [(2, .int v2), (3, .int v3), (4, .int v4)], [], (n, c)) := by
  unfold bX12_chances_93 at hf
  refine mg_iload_n C rfl rfl ?_
  refine mh_if_ne C rfl hf (fun e_94 hf => ?_) (fun e_94 hf => ?_)
  · refine mg_iload C rfl rfl ?_
    exact mh_ireturn C rfl (by omega) (by omega) rfl hf
  · refine mg_iload_n C rfl rfl ?_
    refine mg_goto C rfl ?_
    exact mh_ireturn C rfl (by omega) (by omega) rfl hf
def bX12_chances_87 (N : Nat)  (k45 : Nat → Int32 → Int32 → Int32 → Int32 → Int32 → mm_C → mR Int32) (v0 : Nat) (v1 : Int32) (v2 : Int32) (v3 : Int32) (v4 : Int32) (v5 : Int32) (c : mm_C) : mR Int32 :=
  k45 v0 v1 v2 v3 v4 (v5 + 1) c
set_option maxRecDepth 100000 in
theorem wX12_chances_87 {Z : mm_Z} {X : mm_T} {k w mc ms d n N : Nat} {Q : mm_O → mm_H → Prop} (C : mm_Ok Z qX12_chances X) (hRm : mt_R X = mm_rm d mc ms) (hd : 4 ≤ d) (hn : n + 1 < 1000000) (hk : k + 1 ≤ mc) (hw : w + 6 ≤ ms) {k45 : Nat → Int32 → Int32 → Int32 → Int32 → Int32 → mm_C → mR Int32} (hk45 : ∀ (v0 : Nat) (v1 : Int32) (v2 : Int32) (v3 : Int32) (v4 : Int32) (v5 : Int32) (c : mm_C), hO 0 ovI n (k45 v0 v1 v2 v3 v4 v5 c) Q → mG Z qX12_chances X k w mc ms Q (45, [(0, .ref v0), (1, .int v1), (2, .int v2), (3, .int v3), (4, .int v4), (5, .int v5)], [], (n, c))) {v0 : Nat} {v1 : Int32} {v2 : Int32} {v3 : Int32} {v4 : Int32} {v5 : Int32} {c : mm_C} (hf : hO 0 ovI n (bX12_chances_87 N  k45 v0 v1 v2 v3 v4 v5 c) Q) : mG Z qX12_chances X k w mc ms Q (87, [(0, .ref v0), (1, .int v1), (2, .int v2), (3, .int v3), (4, .int v4), (5, .int v5)], [], (n, c)) := by
  unfold bX12_chances_87 at hf
  refine mg_iinc (lv' := [(0, .ref v0), (1, .int v1), (2, .int v2), (3, .int v3), (4, .int v4), (5, .int (v5 + 1))]) C rfl (Nat.le_of_ble_eq_true rfl) rfl (show _ + Int32.ofInt 1 = _ + 1 by congr 1) rfl ?_
  refine mg_goto C rfl ?_
  exact hk45 _ _ _ _ _ _ _ hf
def bX12_chances_85 (N : Nat)  (k45 : Nat → Int32 → Int32 → Int32 → Int32 → Int32 → mm_C → mR Int32) (v0 : Nat) (v1 : Int32) (v2 : Int32) (v3 : Int32) (v5 : Int32) (s0 : Int32) (c : mm_C) : mR Int32 :=
  bX12_chances_87 N  k45 v0 v1 v2 v3 s0 v5 c
set_option maxRecDepth 100000 in
theorem wX12_chances_85 {Z : mm_Z} {X : mm_T} {k w mc ms d n N : Nat} {Q : mm_O → mm_H → Prop} (C : mm_Ok Z qX12_chances X) (hRm : mt_R X = mm_rm d mc ms) (hd : 4 ≤ d) (hn : n + 1 < 1000000) (hk : k + 1 ≤ mc) (hw : w + 6 ≤ ms) {k45 : Nat → Int32 → Int32 → Int32 → Int32 → Int32 → mm_C → mR Int32} (hk45 : ∀ (v0 : Nat) (v1 : Int32) (v2 : Int32) (v3 : Int32) (v4 : Int32) (v5 : Int32) (c : mm_C), hO 0 ovI n (k45 v0 v1 v2 v3 v4 v5 c) Q → mG Z qX12_chances X k w mc ms Q (45, [(0, .ref v0), (1, .int v1), (2, .int v2), (3, .int v3), (4, .int v4), (5, .int v5)], [], (n, c))) {v0 : Nat} {v1 : Int32} {v2 : Int32} {v3 : Int32} {v5 : Int32} {s0 : Int32} {c : mm_C} (hf : hO 0 ovI n (bX12_chances_85 N  k45 v0 v1 v2 v3 v5 s0 c) Q) : mG Z qX12_chances X k w mc ms Q (85, [(0, .ref v0), (1, .int v1), (2, .int v2), (3, .int v3), (5, .int v5)], [.int s0], (n, c)) := by
  unfold bX12_chances_85 at hf
  refine mg_istore (lv' := [(0, .ref v0), (1, .int v1), (2, .int v2), (3, .int v3), (4, .int s0), (5, .int v5)]) C rfl (Nat.le_of_ble_eq_true rfl) rfl ?_
  exact wX12_chances_87 C hRm hd hn hk hw hk45 hf
def bX12_chances_45 (N : Nat)  (k45 : Nat → Int32 → Int32 → Int32 → Int32 → Int32 → mm_C → mR Int32) (v0 : Nat) (v1 : Int32) (v2 : Int32) (v3 : Int32) (v4 : Int32) (v5 : Int32) (c : mm_C) : mR Int32 :=
  Option.bind (gR c v0 12 3) fun x1 => Option.bind (aI c x1 (1 : Int32)) fun x2 => if x2 ≤ v5 then (bX12_chances_93 N  v2 v3 v4 c) else (cV 12 v0 c (fX12_canBeHad N v0 v1 v5 c) fun r3 c4 => if ¬ r3 = 0 then (if ¬ v4 = (-1 : Int32) then (bX12_chances_85 N  k45 v0 v1 v2 (v3 + 1) v5 v4 c4) else (bX12_chances_85 N  k45 v0 v1 v2 (v3 + 1) v5 v5 c4)) else (bX12_chances_87 N  k45 v0 v1 v2 v3 v4 v5 c4))
set_option maxRecDepth 100000 in
theorem wX12_chances_45 {Z : mm_Z} {X : mm_T} {k w mc ms d n N : Nat} {Q : mm_O → mm_H → Prop} (C : mm_Ok Z qX12_chances X) (hRm : mt_R X = mm_rm d mc ms) (hd : 4 ≤ d) (hn : n + 1 < 1000000) (hk : k + 1 ≤ mc) (hw : w + 6 ≤ ms) {k45 : Nat → Int32 → Int32 → Int32 → Int32 → Int32 → mm_C → mR Int32} (hk45 : ∀ (v0 : Nat) (v1 : Int32) (v2 : Int32) (v3 : Int32) (v4 : Int32) (v5 : Int32) (c : mm_C), hO 0 ovI n (k45 v0 v1 v2 v3 v4 v5 c) Q → mG Z qX12_chances X k w mc ms Q (45, [(0, .ref v0), (1, .int v1), (2, .int v2), (3, .int v3), (4, .int v4), (5, .int v5)], [], (n, c))) {v0 : Nat} {v1 : Int32} {v2 : Int32} {v3 : Int32} {v4 : Int32} {v5 : Int32} {c : mm_C} (hf : hO 0 ovI n (bX12_chances_45 N  k45 v0 v1 v2 v3 v4 v5 c) Q) : mG Z qX12_chances X k w mc ms Q (45, [(0, .ref v0), (1, .int v1), (2, .int v2), (3, .int v3), (4, .int v4), (5, .int v5)], [], (n, c)) := by
  unfold bX12_chances_45 at hf
  refine mg_iload C rfl rfl ?_
  refine mg_aload_n C rfl rfl ?_
  refine mh_gR C rfl rfl rfl (by decide) hf (fun x1 hf => ?_)
  refine mg_iconst (v := 1) C rfl (by decide) ?_
  refine mh_aI C rfl hf (fun x2 hf => ?_)
  refine mh_icmp_ge C rfl hf (fun e_53 hf => ?_) (fun e_53 hf => ?_)
  · refine mg_sub (lv' := [(2, .int v2), (3, .int v3), (4, .int v4)]) (by simp) ?_
    exact wX12_chances_93 C hRm hd hn hk hw hf
  · refine mg_aload_n C rfl rfl ?_
    refine mg_iload_n C rfl rfl ?_
    refine mg_iload C rfl rfl ?_
    refine mh_cVI (M' := qX12_canBeHad) C rfl rfl aX12_canBeHad iX12_canBeHad sX12_canBeHad hRm (by omega) (by decide) (by omega) (by omega) rfl rfl rfl (Nat.le_of_ble_eq_true rfl) rfl hf (fun hs => wX12_canBeHad (by omega) (by omega) hs) (fun r3 c4 hf => ?_)
    refine mh_if_ne C rfl hf (fun e_63 hf => ?_) (fun e_63 hf => ?_)
    · refine mg_iinc (lv' := [(0, .ref v0), (1, .int v1), (2, .int v2), (3, .int (v3 + 1)), (4, .int v4), (5, .int v5)]) C rfl (Nat.le_of_ble_eq_true rfl) rfl (show _ + Int32.ofInt 1 = _ + 1 by congr 1) rfl ?_
      refine mg_iload C rfl rfl ?_
      refine mg_iconst (v := (-1)) C rfl (by decide) ?_
      refine mh_icmp_ne C rfl hf (fun e_75 hf => ?_) (fun e_75 hf => ?_)
      · refine mg_iload C rfl rfl ?_
        refine mg_sub (lv' := [(0, .ref v0), (1, .int v1), (2, .int v2), (3, .int (v3 + 1)), (5, .int v5)]) (by simp) ?_
        exact wX12_chances_85 C hRm hd hn hk hw hk45 hf
      · refine mg_iload C rfl rfl ?_
        refine mg_goto C rfl ?_
        refine mg_sub (lv' := [(0, .ref v0), (1, .int v1), (2, .int v2), (3, .int (v3 + 1)), (5, .int v5)]) (by simp) ?_
        exact wX12_chances_85 C hRm hd hn hk hw hk45 hf
    · refine mg_goto C rfl ?_
      exact wX12_chances_87 C hRm hd hn hk hw hk45 hf
def lX12_chances_45 (N : Nat)  : Nat → Nat → Int32 → Int32 → Int32 → Int32 → Int32 → mm_C → mR Int32
  | 0, _, _, _, _, _, _, _ => none
  | m + 1, v0, v1, v2, v3, v4, v5, c => bX12_chances_45 N  (lX12_chances_45 N  m) v0 v1 v2 v3 v4 v5 c
theorem WX12_chances_45 {Z : mm_Z} {X : mm_T} {k w mc ms d n N : Nat} {Q : mm_O → mm_H → Prop} (C : mm_Ok Z qX12_chances X) (hRm : mt_R X = mm_rm d mc ms) (hd : 4 ≤ d) (hn : n + 1 < 1000000) (hk : k + 1 ≤ mc) (hw : w + 6 ≤ ms) : ∀ (m : Nat) {v0 : Nat} {v1 : Int32} {v2 : Int32} {v3 : Int32} {v4 : Int32} {v5 : Int32} {c : mm_C} (hf : hO 0 ovI n (lX12_chances_45 N  m v0 v1 v2 v3 v4 v5 c) Q), mG Z qX12_chances X k w mc ms Q (45, [(0, .ref v0), (1, .int v1), (2, .int v2), (3, .int v3), (4, .int v4), (5, .int v5)], [], (n, c)) := by
  intro m
  induction m with
  | zero => intro v0 v1 v2 v3 v4 v5 c hf; exact absurd hf hO_none
  | succ m ih => intro v0 v1 v2 v3 v4 v5 c hf; exact wX12_chances_45 C hRm hd hn hk hw (fun v0 v1 v2 v3 v4 v5 c hf => ih hf) hf
def bX12_chances_22 (N : Nat)  (v0 : Nat) (c : mm_C) : mR Int32 :=
  cV 12 v0 c (fX12_fail N v0 (1 : Int32) c) fun r1 c2 => some (.inl r1, c2)
set_option maxRecDepth 100000 in
theorem wX12_chances_22 {Z : mm_Z} {X : mm_T} {k w mc ms d n N : Nat} {Q : mm_O → mm_H → Prop} (C : mm_Ok Z qX12_chances X) (hRm : mt_R X = mm_rm d mc ms) (hd : 4 ≤ d) (hn : n + 1 < 1000000) (hk : k + 1 ≤ mc) (hw : w + 6 ≤ ms) {v0 : Nat} {c : mm_C} (hf : hO 0 ovI n (bX12_chances_22 N  v0 c) Q) : mG Z qX12_chances X k w mc ms Q (22, [(0, .ref v0)], [], (n, c)) := by
  unfold bX12_chances_22 at hf
  refine mg_aload_n C rfl rfl ?_
  refine mg_iconst (v := 1) C rfl (by decide) ?_
  refine mh_cVI (M' := qX12_fail) C rfl rfl aX12_fail iX12_fail sX12_fail hRm (by omega) (by decide) (by omega) (by omega) rfl rfl rfl (Nat.le_of_ble_eq_true rfl) rfl hf (fun hs => wX12_fail (by omega) (by omega) hs) (fun r1 c2 hf => ?_)
  exact mh_ireturn C rfl (by omega) (by omega) rfl hf
def bX12_chances_0 (N : Nat)  (v0 : Nat) (v1 : Int32) (v2 : Int32) (c : mm_C) : mR Int32 :=
  Option.bind (pI c v0 12 2 (0 : Int32)) fun c1 => cV 12 v0 c1 (fX12_isShot N v0 v1 c1) fun r2 c3 => if r2 = 0 then (bX12_chances_22 N  v0 c3) else (if v2 < 0 then (bX12_chances_22 N  v0 c3) else (if v2 ≤ (1 : Int32) then (cV 12 v0 c3 (fX12_set N v0 c3) fun (_ : Unit) c4 => Option.bind (gR c4 v0 12 26) fun x5 => Option.bind (aI c4 x5 (0 : Int32)) fun x6 => lX12_chances_45 N  N v0 v1 v2 (0 : Int32) (-1 : Int32) x6 c4) else (bX12_chances_22 N  v0 c3)))
set_option maxRecDepth 100000 in
theorem wX12_chances_0 {Z : mm_Z} {X : mm_T} {k w mc ms d n N : Nat} {Q : mm_O → mm_H → Prop} (C : mm_Ok Z qX12_chances X) (hRm : mt_R X = mm_rm d mc ms) (hd : 4 ≤ d) (hn : n + 1 < 1000000) (hk : k + 1 ≤ mc) (hw : w + 6 ≤ ms) {v0 : Nat} {v1 : Int32} {v2 : Int32} {c : mm_C} (hf : hO 0 ovI n (bX12_chances_0 N  v0 v1 v2 c) Q) : mG Z qX12_chances X k w mc ms Q (0, [(0, .ref v0), (1, .int v1), (2, .int v2)], [], (n, c)) := by
  unfold bX12_chances_0 at hf
  refine mg_aload_n C rfl rfl ?_
  refine mg_iconst (v := 0) C rfl (by decide) ?_
  refine mh_pI C rfl rfl rfl (by decide) rfl rfl rfl hf (fun c1 hf => ?_)
  refine mg_aload_n C rfl rfl ?_
  refine mg_iload_n C rfl rfl ?_
  refine mh_cVI (M' := qX12_isShot) C rfl rfl aX12_isShot iX12_isShot sX12_isShot hRm (by omega) (by decide) (by omega) (by omega) rfl rfl rfl (Nat.le_of_ble_eq_true rfl) rfl hf (fun hs => wX12_isShot (by omega) (by omega) hs) (fun r2 c3 hf => ?_)
  refine mh_if_eq C rfl hf (fun e_10 hf => ?_) (fun e_10 hf => ?_)
  · refine mg_sub (lv' := [(0, .ref v0)]) (by simp) ?_
    exact wX12_chances_22 C hRm hd hn hk hw hf
  · refine mg_iload_n C rfl rfl ?_
    refine mh_if_lt C rfl hf (fun e_14 hf => ?_) (fun e_14 hf => ?_)
    · refine mg_sub (lv' := [(0, .ref v0)]) (by simp) ?_
      exact wX12_chances_22 C hRm hd hn hk hw hf
    · refine mg_iload_n C rfl rfl ?_
      refine mg_iconst (v := 1) C rfl (by decide) ?_
      refine mh_icmp_le C rfl hf (fun e_19 hf => ?_) (fun e_19 hf => ?_)
      · refine mg_aload_n C rfl rfl ?_
        refine mh_cVU (M' := qX12_set) C rfl rfl aX12_set iX12_set sX12_set hRm (by omega) (by decide) (by omega) (by omega) rfl rfl rfl (Nat.le_of_ble_eq_true rfl) rfl hf (fun hs => wX12_set (by omega) (by omega) hs) (fun c4 hf => ?_)
        refine mg_iconst (v := 0) C rfl (by decide) ?_
        refine mg_istore_n (lv' := [(0, .ref v0), (1, .int v1), (2, .int v2), (3, .int (0 : Int32))]) C rfl (Nat.le_of_ble_eq_true rfl) rfl ?_
        refine mg_iconst (v := (-1)) C rfl (by decide) ?_
        refine mg_istore (lv' := [(0, .ref v0), (1, .int v1), (2, .int v2), (3, .int (0 : Int32)), (4, .int (-1 : Int32))]) C rfl (Nat.le_of_ble_eq_true rfl) rfl ?_
        refine mg_aload_n C rfl rfl ?_
        refine mh_gR C rfl rfl rfl (by decide) hf (fun x5 hf => ?_)
        refine mg_iconst (v := 0) C rfl (by decide) ?_
        refine mh_aI C rfl hf (fun x6 hf => ?_)
        refine mg_istore (lv' := [(0, .ref v0), (1, .int v1), (2, .int v2), (3, .int (0 : Int32)), (4, .int (-1 : Int32)), (5, .int x6)]) C rfl (Nat.le_of_ble_eq_true rfl) rfl ?_
        exact WX12_chances_45 C hRm hd hn hk hw N hf
      · refine mg_sub (lv' := [(0, .ref v0)]) (by simp) ?_
        exact wX12_chances_22 C hRm hd hn hk hw hf
def fX12_chances (N : Nat) (v0 : Nat) (v1 : Int32) (v2 : Int32) (c : mm_C) : mR Int32 := bX12_chances_0 N v0 v1 v2 c
set_option maxRecDepth 100000 in
theorem wX12_chances {Z : mm_Z} {d n N : Nat} (hd : 4 ≤ d) (hn : n + 1 < 1000000) {v0 : Nat} {v1 : Int32} {v2 : Int32} {c : mm_C} (hs : (fX12_chances N v0 v1 v2 c).isSome = true) : mC Z qX12_chances d 1 6 [.ref v0, .int v1, .int v2] (n, c) (mP 0 ovI n (fX12_chances N v0 v1 v2 c)) := by
  refine mC_of gX12_chances (by decide +kernel) (Nat.le_of_ble_eq_true rfl) fun X C hRm => ?_
  have hf := hO_mP 0 ovI n hs
  have hk : 0 + 1 ≤ 1 := Nat.le_of_ble_eq_true rfl
  have hw : 0 + 6 ≤ 6 := Nat.le_of_ble_eq_true rfl
  show mG _ _ _ _ _ _ _ _ (0, [(0, .ref v0), (1, .int v1), (2, .int v2)], [], (n, c))
  exact wX12_chances_0 C hRm hd hn hk hw hf
def bX12_without_0 (N : Nat)  (v0 : Nat) (v1 : Int32) (c : mm_C) : mR Int32 :=
  Option.bind (pI c v0 12 2 (0 : Int32)) fun c1 => cV 12 v0 c1 (fX12_isShot N v0 v1 c1) fun r2 c3 => if ¬ r2 = 0 then (cV 12 v0 c3 (fX12_set N v0 c3) fun (_ : Unit) c4 => cV 12 v0 c4 (fX12_all N v0 c4) fun r5 c6 => cV 12 v0 c6 (fX12_mostOf N v0 r5 c6) fun r7 c8 => cV 12 v0 c8 (fX12_all N v0 c8) fun r9 c10 => cV 12 v0 c10 (fX12_mostOf N v0 (r9 &&& (((1 : Int32) <<< (v1 &&& 31)) ^^^ (-1 : Int32))) c10) fun r11 c12 => some (.inl (r7 - r11), c12)) else (cV 12 v0 c3 (fX12_fail N v0 (1 : Int32) c3) fun r13 c14 => some (.inl r13, c14))
set_option maxRecDepth 100000 in
theorem wX12_without_0 {Z : mm_Z} {X : mm_T} {k w mc ms d n N : Nat} {Q : mm_O → mm_H → Prop} (C : mm_Ok Z qX12_without X) (hRm : mt_R X = mm_rm d mc ms) (hd : 8 ≤ d) (hn : n + 1 < 1000000) (hk : k + 1 ≤ mc) (hw : w + 6 ≤ ms) {v0 : Nat} {v1 : Int32} {c : mm_C} (hf : hO 0 ovI n (bX12_without_0 N  v0 v1 c) Q) : mG Z qX12_without X k w mc ms Q (0, [(0, .ref v0), (1, .int v1)], [], (n, c)) := by
  unfold bX12_without_0 at hf
  refine mg_aload_n C rfl rfl ?_
  refine mg_iconst (v := 0) C rfl (by decide) ?_
  refine mh_pI C rfl rfl rfl (by decide) rfl rfl rfl hf (fun c1 hf => ?_)
  refine mg_aload_n C rfl rfl ?_
  refine mg_iload_n C rfl rfl ?_
  refine mh_cVI (M' := qX12_isShot) C rfl rfl aX12_isShot iX12_isShot sX12_isShot hRm (by omega) (by decide) (by omega) (by omega) rfl rfl rfl (Nat.le_of_ble_eq_true rfl) rfl hf (fun hs => wX12_isShot (by omega) (by omega) hs) (fun r2 c3 hf => ?_)
  refine mh_if_ne C rfl hf (fun e_10 hf => ?_) (fun e_10 hf => ?_)
  · refine mg_aload_n C rfl rfl ?_
    refine mh_cVU (M' := qX12_set) C rfl rfl aX12_set iX12_set sX12_set hRm (by omega) (by decide) (by omega) (by omega) rfl rfl rfl (Nat.le_of_ble_eq_true rfl) rfl hf (fun hs => wX12_set (by omega) (by omega) hs) (fun c4 hf => ?_)
    refine mg_aload_n C rfl rfl ?_
    refine mg_aload_n C rfl rfl ?_
    refine mh_cVI (M' := qX12_all) C rfl rfl aX12_all iX12_all sX12_all hRm (by omega) (by decide) (by omega) (by omega) rfl rfl rfl (Nat.le_of_ble_eq_true rfl) rfl hf (fun hs => wX12_all (by omega) (by omega) hs) (fun r5 c6 hf => ?_)
    refine mh_cVI (M' := qX12_mostOf) C rfl rfl aX12_mostOf iX12_mostOf sX12_mostOf hRm (by omega) (by decide) (by omega) (by omega) rfl rfl rfl (Nat.le_of_ble_eq_true rfl) rfl hf (fun hs => wX12_mostOf (by omega) (by omega) hs) (fun r7 c8 hf => ?_)
    refine mg_aload_n C rfl rfl ?_
    refine mg_aload_n C rfl rfl ?_
    refine mh_cVI (M' := qX12_all) C rfl rfl aX12_all iX12_all sX12_all hRm (by omega) (by decide) (by omega) (by omega) rfl rfl rfl (Nat.le_of_ble_eq_true rfl) rfl hf (fun hs => wX12_all (by omega) (by omega) hs) (fun r9 c10 hf => ?_)
    refine mg_iconst (v := 1) C rfl (by decide) ?_
    refine mg_iload_n C rfl rfl ?_
    refine mg_ishl C rfl ?_
    refine mg_iconst (v := (-1)) C rfl (by decide) ?_
    refine mg_ixor C rfl ?_
    refine mg_iand C rfl ?_
    refine mh_cVI (M' := qX12_mostOf) C rfl rfl aX12_mostOf iX12_mostOf sX12_mostOf hRm (by omega) (by decide) (by omega) (by omega) rfl rfl rfl (Nat.le_of_ble_eq_true rfl) rfl hf (fun hs => wX12_mostOf (by omega) (by omega) hs) (fun r11 c12 hf => ?_)
    refine mg_isub C rfl ?_
    exact mh_ireturn C rfl (by omega) (by omega) rfl hf
  · refine mg_aload_n C rfl rfl ?_
    refine mg_iconst (v := 1) C rfl (by decide) ?_
    refine mh_cVI (M' := qX12_fail) C rfl rfl aX12_fail iX12_fail sX12_fail hRm (by omega) (by decide) (by omega) (by omega) rfl rfl rfl (Nat.le_of_ble_eq_true rfl) rfl hf (fun hs => wX12_fail (by omega) (by omega) hs) (fun r13 c14 hf => ?_)
    exact mh_ireturn C rfl (by omega) (by omega) rfl hf
def fX12_without (N : Nat) (v0 : Nat) (v1 : Int32) (c : mm_C) : mR Int32 := bX12_without_0 N v0 v1 c
set_option maxRecDepth 100000 in
theorem wX12_without {Z : mm_Z} {d n N : Nat} (hd : 8 ≤ d) (hn : n + 1 < 1000000) {v0 : Nat} {v1 : Int32} {c : mm_C} (hs : (fX12_without N v0 v1 c).isSome = true) : mC Z qX12_without d 1 6 [.ref v0, .int v1] (n, c) (mP 0 ovI n (fX12_without N v0 v1 c)) := by
  refine mC_of gX12_without (by decide +kernel) (Nat.le_of_ble_eq_true rfl) fun X C hRm => ?_
  have hf := hO_mP 0 ovI n hs
  have hk : 0 + 1 ≤ 1 := Nat.le_of_ble_eq_true rfl
  have hw : 0 + 6 ≤ 6 := Nat.le_of_ble_eq_true rfl
  show mG _ _ _ _ _ _ _ _ (0, [(0, .ref v0), (1, .int v1)], [], (n, c))
  exact wX12_without_0 C hRm hd hn hk hw hf
def bX12_shorter_0 (N : Nat)  (v0 : Nat) (v1 : Int32) (c : mm_C) : mR Int32 :=
  Option.bind (pI c v0 12 2 (0 : Int32)) fun c1 => cS (fX12_isIn N v1.toInt64 (0 : Int64) (480 : Int64) c1) fun r2 c3 => if ¬ r2 = 0 then (Option.bind (gR c3 v0 12 26) fun x4 => Option.bind (aI c3 x4 (0 : Int32)) fun x5 => Option.bind (gR c3 v0 12 3) fun x6 => Option.bind (aI c3 x6 (1 : Int32)) fun x7 => Option.bind (pI c3 v0 12 30 (mxI x5 (x7 - v1))) fun c8 => cV 12 v0 c8 (fX12_all N v0 c8) fun r9 c10 => cV 12 v0 c10 (fX12_mostOf N v0 r9 c10) fun r11 c12 => some (.inl r11, c12)) else (cV 12 v0 c3 (fX12_fail N v0 (1 : Int32) c3) fun r13 c14 => some (.inl r13, c14))
set_option maxRecDepth 100000 in
theorem wX12_shorter_0 {Z : mm_Z} {X : mm_T} {k w mc ms d n N : Nat} {Q : mm_O → mm_H → Prop} (C : mm_Ok Z qX12_shorter X) (hRm : mt_R X = mm_rm d mc ms) (hd : 8 ≤ d) (hn : n + 1 < 1000000) (hk : k + 1 ≤ mc) (hw : w + 6 ≤ ms) {v0 : Nat} {v1 : Int32} {c : mm_C} (hf : hO 0 ovI n (bX12_shorter_0 N  v0 v1 c) Q) : mG Z qX12_shorter X k w mc ms Q (0, [(0, .ref v0), (1, .int v1)], [], (n, c)) := by
  unfold bX12_shorter_0 at hf
  refine mg_aload_n C rfl rfl ?_
  refine mg_iconst (v := 0) C rfl (by decide) ?_
  refine mh_pI C rfl rfl rfl (by decide) rfl rfl rfl hf (fun c1 hf => ?_)
  refine mg_iload_n C rfl rfl ?_
  refine mg_i2l C rfl ?_
  refine mg_lconst (v := 0) C rfl (by decide) ?_
  refine mg_ldc2_w C rfl rfl ?_
  refine mh_cSI (M' := qX12_isIn) C rfl rfl aX12_isIn tX12_isIn hRm (by omega) (by decide) (by omega) (by omega) rfl rfl (Nat.le_of_ble_eq_true rfl) rfl hf (fun hs => wX12_isIn (by omega) (by omega) hs) (fun r2 c3 hf => ?_)
  refine mh_if_ne C rfl hf (fun e_14 hf => ?_) (fun e_14 hf => ?_)
  · refine mg_aload_n C rfl rfl ?_
    refine mg_aload_n C rfl rfl ?_
    refine mh_gR C rfl rfl rfl (by decide) hf (fun x4 hf => ?_)
    refine mg_iconst (v := 0) C rfl (by decide) ?_
    refine mh_aI C rfl hf (fun x5 hf => ?_)
    refine mg_aload_n C rfl rfl ?_
    refine mh_gR C rfl rfl rfl (by decide) hf (fun x6 hf => ?_)
    refine mg_iconst (v := 1) C rfl (by decide) ?_
    refine mh_aI C rfl hf (fun x7 hf => ?_)
    refine mg_iload_n C rfl rfl ?_
    refine mg_isub C rfl ?_
    refine mh_mxI C rfl rfl hRm (by omega) (Nat.le_of_ble_eq_true rfl) ?_
    refine mh_pI C rfl rfl rfl (by decide) rfl rfl rfl hf (fun c8 hf => ?_)
    refine mg_aload_n C rfl rfl ?_
    refine mg_aload_n C rfl rfl ?_
    refine mh_cVI (M' := qX12_all) C rfl rfl aX12_all iX12_all sX12_all hRm (by omega) (by decide) (by omega) (by omega) rfl rfl rfl (Nat.le_of_ble_eq_true rfl) rfl hf (fun hs => wX12_all (by omega) (by omega) hs) (fun r9 c10 hf => ?_)
    refine mh_cVI (M' := qX12_mostOf) C rfl rfl aX12_mostOf iX12_mostOf sX12_mostOf hRm (by omega) (by decide) (by omega) (by omega) rfl rfl rfl (Nat.le_of_ble_eq_true rfl) rfl hf (fun hs => wX12_mostOf (by omega) (by omega) hs) (fun r11 c12 hf => ?_)
    exact mh_ireturn C rfl (by omega) (by omega) rfl hf
  · refine mg_aload_n C rfl rfl ?_
    refine mg_iconst (v := 1) C rfl (by decide) ?_
    refine mh_cVI (M' := qX12_fail) C rfl rfl aX12_fail iX12_fail sX12_fail hRm (by omega) (by decide) (by omega) (by omega) rfl rfl rfl (Nat.le_of_ble_eq_true rfl) rfl hf (fun hs => wX12_fail (by omega) (by omega) hs) (fun r13 c14 hf => ?_)
    exact mh_ireturn C rfl (by omega) (by omega) rfl hf
def fX12_shorter (N : Nat) (v0 : Nat) (v1 : Int32) (c : mm_C) : mR Int32 := bX12_shorter_0 N v0 v1 c
set_option maxRecDepth 100000 in
theorem wX12_shorter {Z : mm_Z} {d n N : Nat} (hd : 8 ≤ d) (hn : n + 1 < 1000000) {v0 : Nat} {v1 : Int32} {c : mm_C} (hs : (fX12_shorter N v0 v1 c).isSome = true) : mC Z qX12_shorter d 1 6 [.ref v0, .int v1] (n, c) (mP 0 ovI n (fX12_shorter N v0 v1 c)) := by
  refine mC_of gX12_shorter (by decide +kernel) (Nat.le_of_ble_eq_true rfl) fun X C hRm => ?_
  have hf := hO_mP 0 ovI n hs
  have hk : 0 + 1 ≤ 1 := Nat.le_of_ble_eq_true rfl
  have hw : 0 + 6 ≤ 6 := Nat.le_of_ble_eq_true rfl
  show mG _ _ _ _ _ _ _ _ (0, [(0, .ref v0), (1, .int v1)], [], (n, c))
  exact wX12_shorter_0 C hRm hd hn hk hw hf
def bX12_regret_0 (N : Nat)  (v0 : Nat) (c : mm_C) : mR Int32 :=
  Option.bind (pI c v0 12 2 (0 : Int32)) fun c1 => cV 12 v0 c1 (fX12_bestNow N v0 c1) fun r2 c3 => cV 12 v0 c3 (fX12_dayBy N v0 r2 c3) fun (_ : Unit) c4 => Option.bind (gI c4 v0 12 35) fun x5 => cS (fX12_bitsOf N x5 c4) fun r6 c7 => cV 12 v0 c7 (fX12_set N v0 c7) fun (_ : Unit) c8 => cV 12 v0 c8 (fX12_all N v0 c8) fun r9 c10 => cV 12 v0 c10 (fX12_mostOf N v0 r9 c10) fun r11 c12 => some (.inl (r11 - r6), c12)
set_option maxRecDepth 100000 in
theorem wX12_regret_0 {Z : mm_Z} {X : mm_T} {k w mc ms d n N : Nat} {Q : mm_O → mm_H → Prop} (C : mm_Ok Z qX12_regret X) (hRm : mt_R X = mm_rm d mc ms) (hd : 8 ≤ d) (hn : n + 1 < 1000000) (hk : k + 1 ≤ mc) (hw : w + 6 ≤ ms) {v0 : Nat} {c : mm_C} (hf : hO 0 ovI n (bX12_regret_0 N  v0 c) Q) : mG Z qX12_regret X k w mc ms Q (0, [(0, .ref v0)], [], (n, c)) := by
  unfold bX12_regret_0 at hf
  refine mg_aload_n C rfl rfl ?_
  refine mg_iconst (v := 0) C rfl (by decide) ?_
  refine mh_pI C rfl rfl rfl (by decide) rfl rfl rfl hf (fun c1 hf => ?_)
  refine mg_aload_n C rfl rfl ?_
  refine mg_aload_n C rfl rfl ?_
  refine mh_cVI (M' := qX12_bestNow) C rfl rfl aX12_bestNow iX12_bestNow sX12_bestNow hRm (by omega) (by decide) (by omega) (by omega) rfl rfl rfl (Nat.le_of_ble_eq_true rfl) rfl hf (fun hs => wX12_bestNow (by omega) (by omega) hs) (fun r2 c3 hf => ?_)
  refine mh_cVU (M' := qX12_dayBy) C rfl rfl aX12_dayBy iX12_dayBy sX12_dayBy hRm (by omega) (by decide) (by omega) (by omega) rfl rfl rfl (Nat.le_of_ble_eq_true rfl) rfl hf (fun hs => wX12_dayBy (by omega) (by omega) hs) (fun c4 hf => ?_)
  refine mg_aload_n C rfl rfl ?_
  refine mh_gI C rfl rfl rfl (by decide) hf (fun x5 hf => ?_)
  refine mh_cSI (M' := qX12_bitsOf) C rfl rfl aX12_bitsOf tX12_bitsOf hRm (by omega) (by decide) (by omega) (by omega) rfl rfl (Nat.le_of_ble_eq_true rfl) rfl hf (fun hs => wX12_bitsOf (by omega) (by omega) hs) (fun r6 c7 hf => ?_)
  refine mg_istore_n (lv' := [(0, .ref v0), (1, .int r6)]) C rfl (Nat.le_of_ble_eq_true rfl) rfl ?_
  refine mg_aload_n C rfl rfl ?_
  refine mh_cVU (M' := qX12_set) C rfl rfl aX12_set iX12_set sX12_set hRm (by omega) (by decide) (by omega) (by omega) rfl rfl rfl (Nat.le_of_ble_eq_true rfl) rfl hf (fun hs => wX12_set (by omega) (by omega) hs) (fun c8 hf => ?_)
  refine mg_aload_n C rfl rfl ?_
  refine mg_aload_n C rfl rfl ?_
  refine mh_cVI (M' := qX12_all) C rfl rfl aX12_all iX12_all sX12_all hRm (by omega) (by decide) (by omega) (by omega) rfl rfl rfl (Nat.le_of_ble_eq_true rfl) rfl hf (fun hs => wX12_all (by omega) (by omega) hs) (fun r9 c10 hf => ?_)
  refine mh_cVI (M' := qX12_mostOf) C rfl rfl aX12_mostOf iX12_mostOf sX12_mostOf hRm (by omega) (by decide) (by omega) (by omega) rfl rfl rfl (Nat.le_of_ble_eq_true rfl) rfl hf (fun hs => wX12_mostOf (by omega) (by omega) hs) (fun r11 c12 hf => ?_)
  refine mg_iload_n C rfl rfl ?_
  refine mg_isub C rfl ?_
  exact mh_ireturn C rfl (by omega) (by omega) rfl hf
def fX12_regret (N : Nat) (v0 : Nat) (c : mm_C) : mR Int32 := bX12_regret_0 N v0 c
set_option maxRecDepth 100000 in
theorem wX12_regret {Z : mm_Z} {d n N : Nat} (hd : 8 ≤ d) (hn : n + 1 < 1000000) {v0 : Nat} {c : mm_C} (hs : (fX12_regret N v0 c).isSome = true) : mC Z qX12_regret d 1 6 [.ref v0] (n, c) (mP 0 ovI n (fX12_regret N v0 c)) := by
  refine mC_of gX12_regret (by decide +kernel) (Nat.le_of_ble_eq_true rfl) fun X C hRm => ?_
  have hf := hO_mP 0 ovI n hs
  have hk : 0 + 1 ≤ 1 := Nat.le_of_ble_eq_true rfl
  have hw : 0 + 6 ≤ 6 := Nat.le_of_ble_eq_true rfl
  show mG _ _ _ _ _ _ _ _ (0, [(0, .ref v0)], [], (n, c))
  exact wX12_regret_0 C hRm hd hn hk hw hf
def bX12_nextHole_90 (N : Nat)  (v0 : Nat) (c : mm_C) : mR Int32 :=
  Option.bind (gI c v0 12 45) fun x1 => Option.bind (gR c v0 12 3) fun x2 => Option.bind (aI c x2 (1 : Int32)) fun x3 => if x3 ≤ x1 then (rZ (0 : Int32) c) else (rZ (1 : Int32) c)
set_option maxRecDepth 100000 in
theorem wX12_nextHole_90 {Z : mm_Z} {X : mm_T} {k w mc ms d n N : Nat} {Q : mm_O → mm_H → Prop} (C : mm_Ok Z qX12_nextHole X) (hRm : mt_R X = mm_rm d mc ms) (hd : 1 ≤ d) (hn : n + 1 < 1000000) (hk : k + 1 ≤ mc) (hw : w + 6 ≤ ms) {v0 : Nat} {c : mm_C} (hf : hO 0 ovI n (bX12_nextHole_90 N  v0 c) Q) : mG Z qX12_nextHole X k w mc ms Q (90, [(0, .ref v0)], [], (n, c)) := by
  unfold bX12_nextHole_90 at hf
  refine mg_aload_n C rfl rfl ?_
  refine mh_gI C rfl rfl rfl (by decide) hf (fun x1 hf => ?_)
  refine mg_aload_n C rfl rfl ?_
  refine mh_gR C rfl rfl rfl (by decide) hf (fun x2 hf => ?_)
  refine mg_iconst (v := 1) C rfl (by decide) ?_
  refine mh_aI C rfl hf (fun x3 hf => ?_)
  refine mh_icmp_ge C rfl hf (fun e_100 hf => ?_) (fun e_100 hf => ?_)
  · refine mg_iconst (v := 0) C rfl (by decide) ?_
    exact mh_zreturn C rfl (by omega) (by omega) rfl hf
  · refine mg_iconst (v := 1) C rfl (by decide) ?_
    refine mg_goto C rfl ?_
    exact mh_zreturn C rfl (by omega) (by omega) rfl hf
def bX12_nextHole_51 (N : Nat)  (k51 : Nat → mm_C → mR Int32) (v0 : Nat) (c : mm_C) : mR Int32 :=
  Option.bind (gI c v0 12 46) fun x1 => Option.bind (gR c v0 12 3) fun x2 => Option.bind (aI c x2 (1 : Int32)) fun x3 => if x3 ≤ x1 then (bX12_nextHole_90 N  v0 c) else (Option.bind (gR c v0 12 10) fun x4 => Option.bind (gI c v0 12 46) fun x5 => Option.bind (aI c x4 x5) fun x6 => if ¬ x6 = (1 : Int32) then (bX12_nextHole_90 N  v0 c) else (Option.bind (gI c v0 12 46) fun x7 => Option.bind (pI c v0 12 46 (x7 + (1 : Int32))) fun c8 => k51 v0 c8))
set_option maxRecDepth 100000 in
theorem wX12_nextHole_51 {Z : mm_Z} {X : mm_T} {k w mc ms d n N : Nat} {Q : mm_O → mm_H → Prop} (C : mm_Ok Z qX12_nextHole X) (hRm : mt_R X = mm_rm d mc ms) (hd : 1 ≤ d) (hn : n + 1 < 1000000) (hk : k + 1 ≤ mc) (hw : w + 6 ≤ ms) {k51 : Nat → mm_C → mR Int32} (hk51 : ∀ (v0 : Nat) (c : mm_C), hO 0 ovI n (k51 v0 c) Q → mG Z qX12_nextHole X k w mc ms Q (51, [(0, .ref v0)], [], (n, c))) {v0 : Nat} {c : mm_C} (hf : hO 0 ovI n (bX12_nextHole_51 N  k51 v0 c) Q) : mG Z qX12_nextHole X k w mc ms Q (51, [(0, .ref v0)], [], (n, c)) := by
  unfold bX12_nextHole_51 at hf
  refine mg_aload_n C rfl rfl ?_
  refine mh_gI C rfl rfl rfl (by decide) hf (fun x1 hf => ?_)
  refine mg_aload_n C rfl rfl ?_
  refine mh_gR C rfl rfl rfl (by decide) hf (fun x2 hf => ?_)
  refine mg_iconst (v := 1) C rfl (by decide) ?_
  refine mh_aI C rfl hf (fun x3 hf => ?_)
  refine mh_icmp_ge C rfl hf (fun e_61 hf => ?_) (fun e_61 hf => ?_)
  · exact wX12_nextHole_90 C hRm hd hn hk hw hf
  · refine mg_aload_n C rfl rfl ?_
    refine mh_gR C rfl rfl rfl (by decide) hf (fun x4 hf => ?_)
    refine mg_aload_n C rfl rfl ?_
    refine mh_gI C rfl rfl rfl (by decide) hf (fun x5 hf => ?_)
    refine mh_aI C rfl hf (fun x6 hf => ?_)
    refine mg_iconst (v := 1) C rfl (by decide) ?_
    refine mh_icmp_ne C rfl hf (fun e_74 hf => ?_) (fun e_74 hf => ?_)
    · exact wX12_nextHole_90 C hRm hd hn hk hw hf
    · refine mg_aload_n C rfl rfl ?_
      refine mg_dup C rfl rfl ?_
      refine mh_gI C rfl rfl rfl (by decide) hf (fun x7 hf => ?_)
      refine mg_iconst (v := 1) C rfl (by decide) ?_
      refine mg_iadd C rfl ?_
      refine mh_pI C rfl rfl rfl (by decide) rfl rfl rfl hf (fun c8 hf => ?_)
      refine mg_goto C rfl ?_
      exact hk51 _ _ hf
def lX12_nextHole_51 (N : Nat)  : Nat → Nat → mm_C → mR Int32
  | 0, _, _ => none
  | m + 1, v0, c => bX12_nextHole_51 N  (lX12_nextHole_51 N  m) v0 c
theorem WX12_nextHole_51 {Z : mm_Z} {X : mm_T} {k w mc ms d n N : Nat} {Q : mm_O → mm_H → Prop} (C : mm_Ok Z qX12_nextHole X) (hRm : mt_R X = mm_rm d mc ms) (hd : 1 ≤ d) (hn : n + 1 < 1000000) (hk : k + 1 ≤ mc) (hw : w + 6 ≤ ms) : ∀ (m : Nat) {v0 : Nat} {c : mm_C} (hf : hO 0 ovI n (lX12_nextHole_51 N  m v0 c) Q), mG Z qX12_nextHole X k w mc ms Q (51, [(0, .ref v0)], [], (n, c)) := by
  intro m
  induction m with
  | zero => intro v0 c hf; exact absurd hf hO_none
  | succ m ih => intro v0 c hf; exact wX12_nextHole_51 C hRm hd hn hk hw (fun v0 c hf => ih hf) hf
def bX12_nextHole_43 (N : Nat)  (v0 : Nat) (c : mm_C) : mR Int32 :=
  Option.bind (gI c v0 12 45) fun x1 => Option.bind (pI c v0 12 46 x1) fun c2 => lX12_nextHole_51 N  N v0 c2
set_option maxRecDepth 100000 in
theorem wX12_nextHole_43 {Z : mm_Z} {X : mm_T} {k w mc ms d n N : Nat} {Q : mm_O → mm_H → Prop} (C : mm_Ok Z qX12_nextHole X) (hRm : mt_R X = mm_rm d mc ms) (hd : 1 ≤ d) (hn : n + 1 < 1000000) (hk : k + 1 ≤ mc) (hw : w + 6 ≤ ms) {v0 : Nat} {c : mm_C} (hf : hO 0 ovI n (bX12_nextHole_43 N  v0 c) Q) : mG Z qX12_nextHole X k w mc ms Q (43, [(0, .ref v0)], [], (n, c)) := by
  unfold bX12_nextHole_43 at hf
  refine mg_aload_n C rfl rfl ?_
  refine mg_aload_n C rfl rfl ?_
  refine mh_gI C rfl rfl rfl (by decide) hf (fun x1 hf => ?_)
  refine mh_pI C rfl rfl rfl (by decide) rfl rfl rfl hf (fun c2 hf => ?_)
  exact WX12_nextHole_51 C hRm hd hn hk hw N hf
def bX12_nextHole_5 (N : Nat)  (k5 : Nat → mm_C → mR Int32) (v0 : Nat) (c : mm_C) : mR Int32 :=
  Option.bind (gI c v0 12 45) fun x1 => Option.bind (gR c v0 12 3) fun x2 => Option.bind (aI c x2 (1 : Int32)) fun x3 => if x3 ≤ x1 then (bX12_nextHole_43 N  v0 c) else (Option.bind (gR c v0 12 10) fun x4 => Option.bind (gI c v0 12 45) fun x5 => Option.bind (aI c x4 x5) fun x6 => if ¬ x6 = 0 then (bX12_nextHole_43 N  v0 c) else (Option.bind (gI c v0 12 45) fun x7 => Option.bind (pI c v0 12 45 (x7 + (1 : Int32))) fun c8 => k5 v0 c8))
set_option maxRecDepth 100000 in
theorem wX12_nextHole_5 {Z : mm_Z} {X : mm_T} {k w mc ms d n N : Nat} {Q : mm_O → mm_H → Prop} (C : mm_Ok Z qX12_nextHole X) (hRm : mt_R X = mm_rm d mc ms) (hd : 1 ≤ d) (hn : n + 1 < 1000000) (hk : k + 1 ≤ mc) (hw : w + 6 ≤ ms) {k5 : Nat → mm_C → mR Int32} (hk5 : ∀ (v0 : Nat) (c : mm_C), hO 0 ovI n (k5 v0 c) Q → mG Z qX12_nextHole X k w mc ms Q (5, [(0, .ref v0)], [], (n, c))) {v0 : Nat} {c : mm_C} (hf : hO 0 ovI n (bX12_nextHole_5 N  k5 v0 c) Q) : mG Z qX12_nextHole X k w mc ms Q (5, [(0, .ref v0)], [], (n, c)) := by
  unfold bX12_nextHole_5 at hf
  refine mg_aload_n C rfl rfl ?_
  refine mh_gI C rfl rfl rfl (by decide) hf (fun x1 hf => ?_)
  refine mg_aload_n C rfl rfl ?_
  refine mh_gR C rfl rfl rfl (by decide) hf (fun x2 hf => ?_)
  refine mg_iconst (v := 1) C rfl (by decide) ?_
  refine mh_aI C rfl hf (fun x3 hf => ?_)
  refine mh_icmp_ge C rfl hf (fun e_15 hf => ?_) (fun e_15 hf => ?_)
  · exact wX12_nextHole_43 C hRm hd hn hk hw hf
  · refine mg_aload_n C rfl rfl ?_
    refine mh_gR C rfl rfl rfl (by decide) hf (fun x4 hf => ?_)
    refine mg_aload_n C rfl rfl ?_
    refine mh_gI C rfl rfl rfl (by decide) hf (fun x5 hf => ?_)
    refine mh_aI C rfl hf (fun x6 hf => ?_)
    refine mh_if_ne C rfl hf (fun e_27 hf => ?_) (fun e_27 hf => ?_)
    · exact wX12_nextHole_43 C hRm hd hn hk hw hf
    · refine mg_aload_n C rfl rfl ?_
      refine mg_dup C rfl rfl ?_
      refine mh_gI C rfl rfl rfl (by decide) hf (fun x7 hf => ?_)
      refine mg_iconst (v := 1) C rfl (by decide) ?_
      refine mg_iadd C rfl ?_
      refine mh_pI C rfl rfl rfl (by decide) rfl rfl rfl hf (fun c8 hf => ?_)
      refine mg_goto C rfl ?_
      exact hk5 _ _ hf
def lX12_nextHole_5 (N : Nat)  : Nat → Nat → mm_C → mR Int32
  | 0, _, _ => none
  | m + 1, v0, c => bX12_nextHole_5 N  (lX12_nextHole_5 N  m) v0 c
theorem WX12_nextHole_5 {Z : mm_Z} {X : mm_T} {k w mc ms d n N : Nat} {Q : mm_O → mm_H → Prop} (C : mm_Ok Z qX12_nextHole X) (hRm : mt_R X = mm_rm d mc ms) (hd : 1 ≤ d) (hn : n + 1 < 1000000) (hk : k + 1 ≤ mc) (hw : w + 6 ≤ ms) : ∀ (m : Nat) {v0 : Nat} {c : mm_C} (hf : hO 0 ovI n (lX12_nextHole_5 N  m v0 c) Q), mG Z qX12_nextHole X k w mc ms Q (5, [(0, .ref v0)], [], (n, c)) := by
  intro m
  induction m with
  | zero => intro v0 c hf; exact absurd hf hO_none
  | succ m ih => intro v0 c hf; exact wX12_nextHole_5 C hRm hd hn hk hw (fun v0 c hf => ih hf) hf
def bX12_nextHole_0 (N : Nat)  (v0 : Nat) (v1 : Int32) (c : mm_C) : mR Int32 :=
  Option.bind (pI c v0 12 45 v1) fun c1 => lX12_nextHole_5 N  N v0 c1
set_option maxRecDepth 100000 in
theorem wX12_nextHole_0 {Z : mm_Z} {X : mm_T} {k w mc ms d n N : Nat} {Q : mm_O → mm_H → Prop} (C : mm_Ok Z qX12_nextHole X) (hRm : mt_R X = mm_rm d mc ms) (hd : 1 ≤ d) (hn : n + 1 < 1000000) (hk : k + 1 ≤ mc) (hw : w + 6 ≤ ms) {v0 : Nat} {v1 : Int32} {c : mm_C} (hf : hO 0 ovI n (bX12_nextHole_0 N  v0 v1 c) Q) : mG Z qX12_nextHole X k w mc ms Q (0, [(0, .ref v0), (1, .int v1)], [], (n, c)) := by
  unfold bX12_nextHole_0 at hf
  refine mg_aload_n C rfl rfl ?_
  refine mg_iload_n C rfl rfl ?_
  refine mh_pI C rfl rfl rfl (by decide) rfl rfl rfl hf (fun c1 hf => ?_)
  refine mg_sub (lv' := [(0, .ref v0)]) (by simp) ?_
  exact WX12_nextHole_5 C hRm hd hn hk hw N hf
def fX12_nextHole (N : Nat) (v0 : Nat) (v1 : Int32) (c : mm_C) : mR Int32 := bX12_nextHole_0 N v0 v1 c
set_option maxRecDepth 100000 in
theorem wX12_nextHole {Z : mm_Z} {d n N : Nat} (hd : 1 ≤ d) (hn : n + 1 < 1000000) {v0 : Nat} {v1 : Int32} {c : mm_C} (hs : (fX12_nextHole N v0 v1 c).isSome = true) : mC Z qX12_nextHole d 1 6 [.ref v0, .int v1] (n, c) (mP 0 ovI n (fX12_nextHole N v0 v1 c)) := by
  refine mC_of gX12_nextHole (by decide +kernel) (Nat.le_of_ble_eq_true rfl) fun X C hRm => ?_
  have hf := hO_mP 0 ovI n hs
  have hk : 0 + 1 ≤ 1 := Nat.le_of_ble_eq_true rfl
  have hw : 0 + 6 ≤ 6 := Nat.le_of_ble_eq_true rfl
  show mG _ _ _ _ _ _ _ _ (0, [(0, .ref v0), (1, .int v1)], [], (n, c))
  exact wX12_nextHole_0 C hRm hd hn hk hw hf
def bX12_holes_64 (N : Nat)  (v2 : Int32) (c : mm_C) : mR Int32 :=
  some (.inl v2, c)
set_option maxRecDepth 100000 in
theorem wX12_holes_64 {Z : mm_Z} {X : mm_T} {k w mc ms d n N : Nat} {Q : mm_O → mm_H → Prop} (C : mm_Ok Z qX12_holes X) (hRm : mt_R X = mm_rm d mc ms) (hd : 2 ≤ d) (hn : n + 1 < 1000000) (hk : k + 1 ≤ mc) (hw : w + 6 ≤ ms) {v2 : Int32} {c : mm_C} (hf : hO 0 ovI n (bX12_holes_64 N  v2 c) Q) : mG Z qX12_holes X k w mc ms Q (64, [(2, .int v2)], [], (n, c)) := by
  unfold bX12_holes_64 at hf
  refine mg_iload_n C rfl rfl ?_
  exact mh_ireturn C rfl (by omega) (by omega) rfl hf
def bX12_holes_54 (N : Nat)  (k27 : Nat → Int32 → Int32 → Int32 → mm_C → mR Int32) (v0 : Nat) (v1 : Int32) (s0 : Int32) (s1 : Int32) (c : mm_C) : mR Int32 :=
  Option.bind (gI c v0 12 46) fun x1 => k27 v0 v1 (s0 + s1) x1 c
set_option maxRecDepth 100000 in
theorem wX12_holes_54 {Z : mm_Z} {X : mm_T} {k w mc ms d n N : Nat} {Q : mm_O → mm_H → Prop} (C : mm_Ok Z qX12_holes X) (hRm : mt_R X = mm_rm d mc ms) (hd : 2 ≤ d) (hn : n + 1 < 1000000) (hk : k + 1 ≤ mc) (hw : w + 6 ≤ ms) {k27 : Nat → Int32 → Int32 → Int32 → mm_C → mR Int32} (hk27 : ∀ (v0 : Nat) (v1 : Int32) (v2 : Int32) (v3 : Int32) (c : mm_C), hO 0 ovI n (k27 v0 v1 v2 v3 c) Q → mG Z qX12_holes X k w mc ms Q (27, [(0, .ref v0), (1, .int v1), (2, .int v2), (3, .int v3)], [], (n, c))) {v0 : Nat} {v1 : Int32} {s0 : Int32} {s1 : Int32} {c : mm_C} (hf : hO 0 ovI n (bX12_holes_54 N  k27 v0 v1 s0 s1 c) Q) : mG Z qX12_holes X k w mc ms Q (54, [(0, .ref v0), (1, .int v1)], [.int s1, .int s0], (n, c)) := by
  unfold bX12_holes_54 at hf
  refine mg_iadd C rfl ?_
  refine mg_istore_n (lv' := [(0, .ref v0), (1, .int v1), (2, .int (s0 + s1))]) C rfl (Nat.le_of_ble_eq_true rfl) rfl ?_
  refine mg_aload_n C rfl rfl ?_
  refine mh_gI C rfl rfl rfl (by decide) hf (fun x1 hf => ?_)
  refine mg_istore_n (lv' := [(0, .ref v0), (1, .int v1), (2, .int (s0 + s1)), (3, .int x1)]) C rfl (Nat.le_of_ble_eq_true rfl) rfl ?_
  refine mg_goto C rfl ?_
  exact hk27 _ _ _ _ _ hf
def bX12_holes_27 (N : Nat)  (k27 : Nat → Int32 → Int32 → Int32 → mm_C → mR Int32) (v0 : Nat) (v1 : Int32) (v2 : Int32) (v3 : Int32) (c : mm_C) : mR Int32 :=
  cV 12 v0 c (fX12_nextHole N v0 v3 c) fun r1 c2 => if r1 = 0 then (bX12_holes_64 N  v2 c2) else (Option.bind (gI c2 v0 12 46) fun x3 => Option.bind (gI c2 v0 12 45) fun x4 => if (x3 - x4) < v1 then (bX12_holes_54 N  k27 v0 v1 v2 (0 : Int32) c2) else (bX12_holes_54 N  k27 v0 v1 v2 (1 : Int32) c2))
set_option maxRecDepth 100000 in
theorem wX12_holes_27 {Z : mm_Z} {X : mm_T} {k w mc ms d n N : Nat} {Q : mm_O → mm_H → Prop} (C : mm_Ok Z qX12_holes X) (hRm : mt_R X = mm_rm d mc ms) (hd : 2 ≤ d) (hn : n + 1 < 1000000) (hk : k + 1 ≤ mc) (hw : w + 6 ≤ ms) {k27 : Nat → Int32 → Int32 → Int32 → mm_C → mR Int32} (hk27 : ∀ (v0 : Nat) (v1 : Int32) (v2 : Int32) (v3 : Int32) (c : mm_C), hO 0 ovI n (k27 v0 v1 v2 v3 c) Q → mG Z qX12_holes X k w mc ms Q (27, [(0, .ref v0), (1, .int v1), (2, .int v2), (3, .int v3)], [], (n, c))) {v0 : Nat} {v1 : Int32} {v2 : Int32} {v3 : Int32} {c : mm_C} (hf : hO 0 ovI n (bX12_holes_27 N  k27 v0 v1 v2 v3 c) Q) : mG Z qX12_holes X k w mc ms Q (27, [(0, .ref v0), (1, .int v1), (2, .int v2), (3, .int v3)], [], (n, c)) := by
  unfold bX12_holes_27 at hf
  refine mg_aload_n C rfl rfl ?_
  refine mg_iload_n C rfl rfl ?_
  refine mh_cVI (M' := qX12_nextHole) C rfl rfl aX12_nextHole iX12_nextHole sX12_nextHole hRm (by omega) (by decide) (by omega) (by omega) rfl rfl rfl (Nat.le_of_ble_eq_true rfl) rfl hf (fun hs => wX12_nextHole (by omega) (by omega) hs) (fun r1 c2 hf => ?_)
  refine mh_if_eq C rfl hf (fun e_32 hf => ?_) (fun e_32 hf => ?_)
  · refine mg_sub (lv' := [(2, .int v2)]) (by simp) ?_
    exact wX12_holes_64 C hRm hd hn hk hw hf
  · refine mg_iload_n C rfl rfl ?_
    refine mg_aload_n C rfl rfl ?_
    refine mh_gI C rfl rfl rfl (by decide) hf (fun x3 hf => ?_)
    refine mg_aload_n C rfl rfl ?_
    refine mh_gI C rfl rfl rfl (by decide) hf (fun x4 hf => ?_)
    refine mg_isub C rfl ?_
    refine mg_iload_n C rfl rfl ?_
    refine mh_icmp_lt C rfl hf (fun e_46 hf => ?_) (fun e_46 hf => ?_)
    · refine mg_iconst (v := 0) C rfl (by decide) ?_
      refine mg_sub (lv' := [(0, .ref v0), (1, .int v1)]) (by simp) ?_
      exact wX12_holes_54 C hRm hd hn hk hw hk27 hf
    · refine mg_iconst (v := 1) C rfl (by decide) ?_
      refine mg_goto C rfl ?_
      refine mg_sub (lv' := [(0, .ref v0), (1, .int v1)]) (by simp) ?_
      exact wX12_holes_54 C hRm hd hn hk hw hk27 hf
def lX12_holes_27 (N : Nat)  : Nat → Nat → Int32 → Int32 → Int32 → mm_C → mR Int32
  | 0, _, _, _, _, _ => none
  | m + 1, v0, v1, v2, v3, c => bX12_holes_27 N  (lX12_holes_27 N  m) v0 v1 v2 v3 c
theorem WX12_holes_27 {Z : mm_Z} {X : mm_T} {k w mc ms d n N : Nat} {Q : mm_O → mm_H → Prop} (C : mm_Ok Z qX12_holes X) (hRm : mt_R X = mm_rm d mc ms) (hd : 2 ≤ d) (hn : n + 1 < 1000000) (hk : k + 1 ≤ mc) (hw : w + 6 ≤ ms) : ∀ (m : Nat) {v0 : Nat} {v1 : Int32} {v2 : Int32} {v3 : Int32} {c : mm_C} (hf : hO 0 ovI n (lX12_holes_27 N  m v0 v1 v2 v3 c) Q), mG Z qX12_holes X k w mc ms Q (27, [(0, .ref v0), (1, .int v1), (2, .int v2), (3, .int v3)], [], (n, c)) := by
  intro m
  induction m with
  | zero => intro v0 v1 v2 v3 c hf; exact absurd hf hO_none
  | succ m ih => intro v0 v1 v2 v3 c hf; exact wX12_holes_27 C hRm hd hn hk hw (fun v0 v1 v2 v3 c hf => ih hf) hf
def bX12_holes_0 (N : Nat)  (v0 : Nat) (v1 : Int32) (c : mm_C) : mR Int32 :=
  Option.bind (pI c v0 12 2 (0 : Int32)) fun c1 => cS (fX12_isIn N v1.toInt64 (1 : Int64) (480 : Int64) c1) fun r2 c3 => if ¬ r2 = 0 then (lX12_holes_27 N  N v0 v1 (0 : Int32) (0 : Int32) c3) else (cV 12 v0 c3 (fX12_fail N v0 (1 : Int32) c3) fun r4 c5 => some (.inl r4, c5))
set_option maxRecDepth 100000 in
theorem wX12_holes_0 {Z : mm_Z} {X : mm_T} {k w mc ms d n N : Nat} {Q : mm_O → mm_H → Prop} (C : mm_Ok Z qX12_holes X) (hRm : mt_R X = mm_rm d mc ms) (hd : 2 ≤ d) (hn : n + 1 < 1000000) (hk : k + 1 ≤ mc) (hw : w + 6 ≤ ms) {v0 : Nat} {v1 : Int32} {c : mm_C} (hf : hO 0 ovI n (bX12_holes_0 N  v0 v1 c) Q) : mG Z qX12_holes X k w mc ms Q (0, [(0, .ref v0), (1, .int v1)], [], (n, c)) := by
  unfold bX12_holes_0 at hf
  refine mg_aload_n C rfl rfl ?_
  refine mg_iconst (v := 0) C rfl (by decide) ?_
  refine mh_pI C rfl rfl rfl (by decide) rfl rfl rfl hf (fun c1 hf => ?_)
  refine mg_iload_n C rfl rfl ?_
  refine mg_i2l C rfl ?_
  refine mg_lconst (v := 1) C rfl (by decide) ?_
  refine mg_ldc2_w C rfl rfl ?_
  refine mh_cSI (M' := qX12_isIn) C rfl rfl aX12_isIn tX12_isIn hRm (by omega) (by decide) (by omega) (by omega) rfl rfl (Nat.le_of_ble_eq_true rfl) rfl hf (fun hs => wX12_isIn (by omega) (by omega) hs) (fun r2 c3 hf => ?_)
  refine mh_if_ne C rfl hf (fun e_14 hf => ?_) (fun e_14 hf => ?_)
  · refine mg_iconst (v := 0) C rfl (by decide) ?_
    refine mg_istore_n (lv' := [(0, .ref v0), (1, .int v1), (2, .int (0 : Int32))]) C rfl (Nat.le_of_ble_eq_true rfl) rfl ?_
    refine mg_iconst (v := 0) C rfl (by decide) ?_
    refine mg_istore_n (lv' := [(0, .ref v0), (1, .int v1), (2, .int (0 : Int32)), (3, .int (0 : Int32))]) C rfl (Nat.le_of_ble_eq_true rfl) rfl ?_
    exact WX12_holes_27 C hRm hd hn hk hw N hf
  · refine mg_aload_n C rfl rfl ?_
    refine mg_iconst (v := 1) C rfl (by decide) ?_
    refine mh_cVI (M' := qX12_fail) C rfl rfl aX12_fail iX12_fail sX12_fail hRm (by omega) (by decide) (by omega) (by omega) rfl rfl rfl (Nat.le_of_ble_eq_true rfl) rfl hf (fun hs => wX12_fail (by omega) (by omega) hs) (fun r4 c5 hf => ?_)
    exact mh_ireturn C rfl (by omega) (by omega) rfl hf
def fX12_holes (N : Nat) (v0 : Nat) (v1 : Int32) (c : mm_C) : mR Int32 := bX12_holes_0 N v0 v1 c
set_option maxRecDepth 100000 in
theorem wX12_holes {Z : mm_Z} {d n N : Nat} (hd : 2 ≤ d) (hn : n + 1 < 1000000) {v0 : Nat} {v1 : Int32} {c : mm_C} (hs : (fX12_holes N v0 v1 c).isSome = true) : mC Z qX12_holes d 1 6 [.ref v0, .int v1] (n, c) (mP 0 ovI n (fX12_holes N v0 v1 c)) := by
  refine mC_of gX12_holes (by decide +kernel) (Nat.le_of_ble_eq_true rfl) fun X C hRm => ?_
  have hf := hO_mP 0 ovI n hs
  have hk : 0 + 1 ≤ 1 := Nat.le_of_ble_eq_true rfl
  have hw : 0 + 6 ≤ 6 := Nat.le_of_ble_eq_true rfl
  show mG _ _ _ _ _ _ _ _ (0, [(0, .ref v0), (1, .int v1)], [], (n, c))
  exact wX12_holes_0 C hRm hd hn hk hw hf
def bX12_common_31 (N : Nat)  (v4 : Int64) (c : mm_C) : mR Int64 :=
  some (.inl v4, c)
set_option maxRecDepth 100000 in
theorem wX12_common_31 {Z : mm_Z} {X : mm_T} {k w mc ms d n N : Nat} {Q : mm_O → mm_H → Prop} (C : mm_Ok Z qX12_common X) (hRm : mt_R X = mm_rm d mc ms) (hd : 1 ≤ d) (hn : n + 1 < 1000000) (hk : k + 1 ≤ mc) (hw : w + 6 ≤ ms) {v4 : Int64} {c : mm_C} (hf : hO 0 ovL n (bX12_common_31 N  v4 c) Q) : mG Z qX12_common X k w mc ms Q (31, [(4, .long v4)], [], (n, c)) := by
  unfold bX12_common_31 at hf
  refine mg_lload C rfl rfl ?_
  exact mh_lreturn C rfl (by omega) (by omega) rfl hf
def bX12_common_6 (N : Nat)  (k6 : Int64 → Int64 → mm_C → mR Int64) (v4 : Int64) (v6 : Int64) (c : mm_C) : mR Int64 :=
  if (lg_cmp v6 (0 : Int64)) = 0 then (bX12_common_31 N  v4 c) else (Option.bind (rmL v4 v6) fun x1 => k6 v6 x1 c)
set_option maxRecDepth 100000 in
theorem wX12_common_6 {Z : mm_Z} {X : mm_T} {k w mc ms d n N : Nat} {Q : mm_O → mm_H → Prop} (C : mm_Ok Z qX12_common X) (hRm : mt_R X = mm_rm d mc ms) (hd : 1 ≤ d) (hn : n + 1 < 1000000) (hk : k + 1 ≤ mc) (hw : w + 6 ≤ ms) {k6 : Int64 → Int64 → mm_C → mR Int64} (hk6 : ∀ (v4 : Int64) (v6 : Int64) (c : mm_C), hO 0 ovL n (k6 v4 v6 c) Q → mG Z qX12_common X k w mc ms Q (6, [(4, .long v4), (6, .long v6)], [], (n, c))) {v4 : Int64} {v6 : Int64} {c : mm_C} (hf : hO 0 ovL n (bX12_common_6 N  k6 v4 v6 c) Q) : mG Z qX12_common X k w mc ms Q (6, [(4, .long v4), (6, .long v6)], [], (n, c)) := by
  unfold bX12_common_6 at hf
  refine mg_lload C rfl rfl ?_
  refine mg_lconst (v := 0) C rfl (by decide) ?_
  refine mg_lcmp C rfl ?_
  refine mh_if_eq C rfl hf (fun e_10 hf => ?_) (fun e_10 hf => ?_)
  · refine mg_sub (lv' := [(4, .long v4)]) (by simp) ?_
    exact wX12_common_31 C hRm hd hn hk hw hf
  · refine mg_lload C rfl rfl ?_
    refine mg_lload C rfl rfl ?_
    refine mh_lrem C rfl hf (fun x1 hf => ?_)
    refine mg_lstore (lv' := [(4, .long v4), (6, .long v6), (8, .long x1)]) C rfl (Nat.le_of_ble_eq_true rfl) rfl ?_
    refine mg_lload C rfl rfl ?_
    refine mg_lstore (lv' := [(4, .long v6), (6, .long v6), (8, .long x1)]) C rfl (Nat.le_of_ble_eq_true rfl) rfl ?_
    refine mg_lload C rfl rfl ?_
    refine mg_lstore (lv' := [(4, .long v6), (6, .long x1), (8, .long x1)]) C rfl (Nat.le_of_ble_eq_true rfl) rfl ?_
    refine mg_goto C rfl ?_
    refine mg_sub (lv' := [(4, .long v6), (6, .long x1)]) (by simp) ?_
    exact hk6 _ _ _ hf
def lX12_common_6 (N : Nat)  : Nat → Int64 → Int64 → mm_C → mR Int64
  | 0, _, _, _ => none
  | m + 1, v4, v6, c => bX12_common_6 N  (lX12_common_6 N  m) v4 v6 c
theorem WX12_common_6 {Z : mm_Z} {X : mm_T} {k w mc ms d n N : Nat} {Q : mm_O → mm_H → Prop} (C : mm_Ok Z qX12_common X) (hRm : mt_R X = mm_rm d mc ms) (hd : 1 ≤ d) (hn : n + 1 < 1000000) (hk : k + 1 ≤ mc) (hw : w + 6 ≤ ms) : ∀ (m : Nat) {v4 : Int64} {v6 : Int64} {c : mm_C} (hf : hO 0 ovL n (lX12_common_6 N  m v4 v6 c) Q), mG Z qX12_common X k w mc ms Q (6, [(4, .long v4), (6, .long v6)], [], (n, c)) := by
  intro m
  induction m with
  | zero => intro v4 v6 c hf; exact absurd hf hO_none
  | succ m ih => intro v4 v6 c hf; exact wX12_common_6 C hRm hd hn hk hw (fun v4 v6 c hf => ih hf) hf
def bX12_common_0 (N : Nat)  (v0 : Int64) (v2 : Int64) (c : mm_C) : mR Int64 :=
  lX12_common_6 N  N v0 v2 c
set_option maxRecDepth 100000 in
theorem wX12_common_0 {Z : mm_Z} {X : mm_T} {k w mc ms d n N : Nat} {Q : mm_O → mm_H → Prop} (C : mm_Ok Z qX12_common X) (hRm : mt_R X = mm_rm d mc ms) (hd : 1 ≤ d) (hn : n + 1 < 1000000) (hk : k + 1 ≤ mc) (hw : w + 6 ≤ ms) {v0 : Int64} {v2 : Int64} {c : mm_C} (hf : hO 0 ovL n (bX12_common_0 N  v0 v2 c) Q) : mG Z qX12_common X k w mc ms Q (0, [(0, .long v0), (2, .long v2)], [], (n, c)) := by
  unfold bX12_common_0 at hf
  refine mg_lload_n C rfl rfl ?_
  refine mg_lstore (lv' := [(0, .long v0), (2, .long v2), (4, .long v0)]) C rfl (Nat.le_of_ble_eq_true rfl) rfl ?_
  refine mg_lload_n C rfl rfl ?_
  refine mg_lstore (lv' := [(0, .long v0), (2, .long v2), (4, .long v0), (6, .long v2)]) C rfl (Nat.le_of_ble_eq_true rfl) rfl ?_
  refine mg_sub (lv' := [(4, .long v0), (6, .long v2)]) (by simp) ?_
  exact WX12_common_6 C hRm hd hn hk hw N hf
def fX12_common (N : Nat) (v0 : Int64) (v2 : Int64) (c : mm_C) : mR Int64 := bX12_common_0 N v0 v2 c
set_option maxRecDepth 100000 in
theorem wX12_common {Z : mm_Z} {d n N : Nat} (hd : 1 ≤ d) (hn : n + 1 < 1000000) {v0 : Int64} {v2 : Int64} {c : mm_C} (hs : (fX12_common N v0 v2 c).isSome = true) : mC Z qX12_common d 1 6 [.long v0, .long v2] (n, c) (mP 0 ovL n (fX12_common N v0 v2 c)) := by
  refine mC_of gX12_common (by decide +kernel) (Nat.le_of_ble_eq_true rfl) fun X C hRm => ?_
  have hf := hO_mP 0 ovL n hs
  have hk : 0 + 1 ≤ 1 := Nat.le_of_ble_eq_true rfl
  have hw : 0 + 6 ≤ 6 := Nat.le_of_ble_eq_true rfl
  show mG _ _ _ _ _ _ _ _ (0, [(0, .long v0), (2, .long v2)], [], (n, c))
  exact wX12_common_0 C hRm hd hn hk hw hf
def bX12_hole_95 (N : Nat)  (v1 : Int32) (v2 : Int32) (v3 : Int32) (v4 : Int32) (v5 : Int32) (c : mm_C) : mR Int32 :=
  if v1 ≤ (1 : Int32) then (cS (fX12_common N v3.toInt64 v2.toInt64 c) fun r1 c2 => if ¬ v3 = 0 then (if ¬ v1 = 0 then (Option.bind (dvI v3 r1.toInt32) fun x3 => some (.inl x3, c2)) else (Option.bind (dvI v2 r1.toInt32) fun x4 => some (.inl x4, c2))) else (some (.inl v1, c2))) else (if ¬ v1 = (2 : Int32) then (some (.inl v5, c)) else (some (.inl v4, c)))
set_option maxRecDepth 100000 in
theorem wX12_hole_95 {Z : mm_Z} {X : mm_T} {k w mc ms d n N : Nat} {Q : mm_O → mm_H → Prop} (C : mm_Ok Z qX12_hole X) (hRm : mt_R X = mm_rm d mc ms) (hd : 2 ≤ d) (hn : n + 1 < 1000000) (hk : k + 1 ≤ mc) (hw : w + 6 ≤ ms) {v1 : Int32} {v2 : Int32} {v3 : Int32} {v4 : Int32} {v5 : Int32} {c : mm_C} (hf : hO 0 ovI n (bX12_hole_95 N  v1 v2 v3 v4 v5 c) Q) : mG Z qX12_hole X k w mc ms Q (95, [(1, .int v1), (2, .int v2), (3, .int v3), (4, .int v4), (5, .int v5)], [], (n, c)) := by
  unfold bX12_hole_95 at hf
  refine mg_iload_n C rfl rfl ?_
  refine mg_iconst (v := 1) C rfl (by decide) ?_
  refine mh_icmp_le C rfl hf (fun e_97 hf => ?_) (fun e_97 hf => ?_)
  · refine mg_iload_n C rfl rfl ?_
    refine mg_i2l C rfl ?_
    refine mg_iload_n C rfl rfl ?_
    refine mg_i2l C rfl ?_
    refine mh_cSL (M' := qX12_common) C rfl rfl aX12_common tX12_common hRm (by omega) (by decide) (by omega) (by omega) rfl rfl (Nat.le_of_ble_eq_true rfl) rfl hf (fun hs => wX12_common (by omega) (by omega) hs) (fun r1 c2 hf => ?_)
    refine mg_l2i C rfl ?_
    refine mg_istore (lv' := [(1, .int v1), (2, .int v2), (3, .int v3), (4, .int v4), (5, .int v5), (6, .int r1.toInt32)]) C rfl (Nat.le_of_ble_eq_true rfl) rfl ?_
    refine mg_iload_n C rfl rfl ?_
    refine mh_if_ne C rfl hf (fun e_124 hf => ?_) (fun e_124 hf => ?_)
    · refine mg_iload_n C rfl rfl ?_
      refine mh_if_ne C rfl hf (fun e_132 hf => ?_) (fun e_132 hf => ?_)
      · refine mg_iload_n C rfl rfl ?_
        refine mg_iload C rfl rfl ?_
        refine mh_idiv C rfl hf (fun x3 hf => ?_)
        exact mh_ireturn C rfl (by omega) (by omega) rfl hf
      · refine mg_iload_n C rfl rfl ?_
        refine mg_iload C rfl rfl ?_
        refine mh_idiv C rfl hf (fun x4 hf => ?_)
        refine mg_goto C rfl ?_
        exact mh_ireturn C rfl (by omega) (by omega) rfl hf
    · refine mg_iload_n C rfl rfl ?_
      refine mg_goto C rfl ?_
      exact mh_ireturn C rfl (by omega) (by omega) rfl hf
  · refine mg_iload_n C rfl rfl ?_
    refine mg_iconst (v := 2) C rfl (by decide) ?_
    refine mh_icmp_ne C rfl hf (fun e_102 hf => ?_) (fun e_102 hf => ?_)
    · refine mg_iload C rfl rfl ?_
      exact mh_ireturn C rfl (by omega) (by omega) rfl hf
    · refine mg_iload C rfl rfl ?_
      refine mg_goto C rfl ?_
      exact mh_ireturn C rfl (by omega) (by omega) rfl hf
def bX12_hole_77 (N : Nat)  (k36 : Nat → Int32 → Int32 → Int32 → Int32 → Int32 → Int32 → mm_C → mR Int32) (v0 : Nat) (v1 : Int32) (v2 : Int32) (v3 : Int32) (v4 : Int32) (v5 : Int32) (v7 : Int32) (c : mm_C) : mR Int32 :=
  Option.bind (gI c v0 12 46) fun x1 => k36 v0 v1 v2 v3 (mxI v4 v7) v5 x1 c
set_option maxRecDepth 100000 in
theorem wX12_hole_77 {Z : mm_Z} {X : mm_T} {k w mc ms d n N : Nat} {Q : mm_O → mm_H → Prop} (C : mm_Ok Z qX12_hole X) (hRm : mt_R X = mm_rm d mc ms) (hd : 2 ≤ d) (hn : n + 1 < 1000000) (hk : k + 1 ≤ mc) (hw : w + 6 ≤ ms) {k36 : Nat → Int32 → Int32 → Int32 → Int32 → Int32 → Int32 → mm_C → mR Int32} (hk36 : ∀ (v0 : Nat) (v1 : Int32) (v2 : Int32) (v3 : Int32) (v4 : Int32) (v5 : Int32) (v6 : Int32) (c : mm_C), hO 0 ovI n (k36 v0 v1 v2 v3 v4 v5 v6 c) Q → mG Z qX12_hole X k w mc ms Q (36, [(0, .ref v0), (1, .int v1), (2, .int v2), (3, .int v3), (4, .int v4), (5, .int v5), (6, .int v6)], [], (n, c))) {v0 : Nat} {v1 : Int32} {v2 : Int32} {v3 : Int32} {v4 : Int32} {v5 : Int32} {v7 : Int32} {c : mm_C} (hf : hO 0 ovI n (bX12_hole_77 N  k36 v0 v1 v2 v3 v4 v5 v7 c) Q) : mG Z qX12_hole X k w mc ms Q (77, [(0, .ref v0), (1, .int v1), (2, .int v2), (3, .int v3), (4, .int v4), (5, .int v5), (7, .int v7)], [], (n, c)) := by
  unfold bX12_hole_77 at hf
  refine mg_iload C rfl rfl ?_
  refine mg_iload C rfl rfl ?_
  refine mh_mxI C rfl rfl hRm (by omega) (Nat.le_of_ble_eq_true rfl) ?_
  refine mg_istore (lv' := [(0, .ref v0), (1, .int v1), (2, .int v2), (3, .int v3), (4, .int (mxI v4 v7)), (5, .int v5), (7, .int v7)]) C rfl (Nat.le_of_ble_eq_true rfl) rfl ?_
  refine mg_aload_n C rfl rfl ?_
  refine mh_gI C rfl rfl rfl (by decide) hf (fun x1 hf => ?_)
  refine mg_istore (lv' := [(0, .ref v0), (1, .int v1), (2, .int v2), (3, .int v3), (4, .int (mxI v4 v7)), (5, .int v5), (6, .int x1), (7, .int v7)]) C rfl (Nat.le_of_ble_eq_true rfl) rfl ?_
  refine mg_goto C rfl ?_
  refine mg_sub (lv' := [(0, .ref v0), (1, .int v1), (2, .int v2), (3, .int v3), (4, .int (mxI v4 v7)), (5, .int v5), (6, .int x1)]) (by simp) ?_
  exact hk36 _ _ _ _ _ _ _ _ hf
def bX12_hole_36 (N : Nat)  (k36 : Nat → Int32 → Int32 → Int32 → Int32 → Int32 → Int32 → mm_C → mR Int32) (v0 : Nat) (v1 : Int32) (v2 : Int32) (v3 : Int32) (v4 : Int32) (v5 : Int32) (v6 : Int32) (c : mm_C) : mR Int32 :=
  cV 12 v0 c (fX12_nextHole N v0 v6 c) fun r1 c2 => if r1 = 0 then (bX12_hole_95 N  v1 v2 v3 v4 v5 c2) else (Option.bind (gI c2 v0 12 46) fun x3 => Option.bind (gI c2 v0 12 45) fun x4 => if (x3 - x4) ≤ v4 then (bX12_hole_77 N  k36 v0 v1 (v2 + (x3 - x4)) (v3 + 1) v4 v5 (x3 - x4) c2) else (Option.bind (gI c2 v0 12 45) fun x5 => bX12_hole_77 N  k36 v0 v1 (v2 + (x3 - x4)) (v3 + 1) v4 x5 (x3 - x4) c2))
set_option maxRecDepth 100000 in
theorem wX12_hole_36 {Z : mm_Z} {X : mm_T} {k w mc ms d n N : Nat} {Q : mm_O → mm_H → Prop} (C : mm_Ok Z qX12_hole X) (hRm : mt_R X = mm_rm d mc ms) (hd : 2 ≤ d) (hn : n + 1 < 1000000) (hk : k + 1 ≤ mc) (hw : w + 6 ≤ ms) {k36 : Nat → Int32 → Int32 → Int32 → Int32 → Int32 → Int32 → mm_C → mR Int32} (hk36 : ∀ (v0 : Nat) (v1 : Int32) (v2 : Int32) (v3 : Int32) (v4 : Int32) (v5 : Int32) (v6 : Int32) (c : mm_C), hO 0 ovI n (k36 v0 v1 v2 v3 v4 v5 v6 c) Q → mG Z qX12_hole X k w mc ms Q (36, [(0, .ref v0), (1, .int v1), (2, .int v2), (3, .int v3), (4, .int v4), (5, .int v5), (6, .int v6)], [], (n, c))) {v0 : Nat} {v1 : Int32} {v2 : Int32} {v3 : Int32} {v4 : Int32} {v5 : Int32} {v6 : Int32} {c : mm_C} (hf : hO 0 ovI n (bX12_hole_36 N  k36 v0 v1 v2 v3 v4 v5 v6 c) Q) : mG Z qX12_hole X k w mc ms Q (36, [(0, .ref v0), (1, .int v1), (2, .int v2), (3, .int v3), (4, .int v4), (5, .int v5), (6, .int v6)], [], (n, c)) := by
  unfold bX12_hole_36 at hf
  refine mg_aload_n C rfl rfl ?_
  refine mg_iload C rfl rfl ?_
  refine mh_cVI (M' := qX12_nextHole) C rfl rfl aX12_nextHole iX12_nextHole sX12_nextHole hRm (by omega) (by decide) (by omega) (by omega) rfl rfl rfl (Nat.le_of_ble_eq_true rfl) rfl hf (fun hs => wX12_nextHole (by omega) (by omega) hs) (fun r1 c2 hf => ?_)
  refine mh_if_eq C rfl hf (fun e_42 hf => ?_) (fun e_42 hf => ?_)
  · refine mg_sub (lv' := [(1, .int v1), (2, .int v2), (3, .int v3), (4, .int v4), (5, .int v5)]) (by simp) ?_
    exact wX12_hole_95 C hRm hd hn hk hw hf
  · refine mg_aload_n C rfl rfl ?_
    refine mh_gI C rfl rfl rfl (by decide) hf (fun x3 hf => ?_)
    refine mg_aload_n C rfl rfl ?_
    refine mh_gI C rfl rfl rfl (by decide) hf (fun x4 hf => ?_)
    refine mg_isub C rfl ?_
    refine mg_istore (lv' := [(0, .ref v0), (1, .int v1), (2, .int v2), (3, .int v3), (4, .int v4), (5, .int v5), (6, .int v6), (7, .int (x3 - x4))]) C rfl (Nat.le_of_ble_eq_true rfl) rfl ?_
    refine mg_iload_n C rfl rfl ?_
    refine mg_iload C rfl rfl ?_
    refine mg_iadd C rfl ?_
    refine mg_istore_n (lv' := [(0, .ref v0), (1, .int v1), (2, .int (v2 + (x3 - x4))), (3, .int v3), (4, .int v4), (5, .int v5), (6, .int v6), (7, .int (x3 - x4))]) C rfl (Nat.le_of_ble_eq_true rfl) rfl ?_
    refine mg_iinc (lv' := [(0, .ref v0), (1, .int v1), (2, .int (v2 + (x3 - x4))), (3, .int (v3 + 1)), (4, .int v4), (5, .int v5), (6, .int v6), (7, .int (x3 - x4))]) C rfl (Nat.le_of_ble_eq_true rfl) rfl (show _ + Int32.ofInt 1 = _ + 1 by congr 1) rfl ?_
    refine mg_iload C rfl rfl ?_
    refine mg_iload C rfl rfl ?_
    refine mh_icmp_le C rfl hf (fun e_68 hf => ?_) (fun e_68 hf => ?_)
    · refine mg_sub (lv' := [(0, .ref v0), (1, .int v1), (2, .int (v2 + (x3 - x4))), (3, .int (v3 + 1)), (4, .int v4), (5, .int v5), (7, .int (x3 - x4))]) (by simp) ?_
      exact wX12_hole_77 C hRm hd hn hk hw hk36 hf
    · refine mg_aload_n C rfl rfl ?_
      refine mh_gI C rfl rfl rfl (by decide) hf (fun x5 hf => ?_)
      refine mg_istore (lv' := [(0, .ref v0), (1, .int v1), (2, .int (v2 + (x3 - x4))), (3, .int (v3 + 1)), (4, .int v4), (5, .int x5), (6, .int v6), (7, .int (x3 - x4))]) C rfl (Nat.le_of_ble_eq_true rfl) rfl ?_
      refine mg_sub (lv' := [(0, .ref v0), (1, .int v1), (2, .int (v2 + (x3 - x4))), (3, .int (v3 + 1)), (4, .int v4), (5, .int x5), (7, .int (x3 - x4))]) (by simp) ?_
      exact wX12_hole_77 C hRm hd hn hk hw hk36 hf
def lX12_hole_36 (N : Nat)  : Nat → Nat → Int32 → Int32 → Int32 → Int32 → Int32 → Int32 → mm_C → mR Int32
  | 0, _, _, _, _, _, _, _, _ => none
  | m + 1, v0, v1, v2, v3, v4, v5, v6, c => bX12_hole_36 N  (lX12_hole_36 N  m) v0 v1 v2 v3 v4 v5 v6 c
theorem WX12_hole_36 {Z : mm_Z} {X : mm_T} {k w mc ms d n N : Nat} {Q : mm_O → mm_H → Prop} (C : mm_Ok Z qX12_hole X) (hRm : mt_R X = mm_rm d mc ms) (hd : 2 ≤ d) (hn : n + 1 < 1000000) (hk : k + 1 ≤ mc) (hw : w + 6 ≤ ms) : ∀ (m : Nat) {v0 : Nat} {v1 : Int32} {v2 : Int32} {v3 : Int32} {v4 : Int32} {v5 : Int32} {v6 : Int32} {c : mm_C} (hf : hO 0 ovI n (lX12_hole_36 N  m v0 v1 v2 v3 v4 v5 v6 c) Q), mG Z qX12_hole X k w mc ms Q (36, [(0, .ref v0), (1, .int v1), (2, .int v2), (3, .int v3), (4, .int v4), (5, .int v5), (6, .int v6)], [], (n, c)) := by
  intro m
  induction m with
  | zero => intro v0 v1 v2 v3 v4 v5 v6 c hf; exact absurd hf hO_none
  | succ m ih => intro v0 v1 v2 v3 v4 v5 v6 c hf; exact wX12_hole_36 C hRm hd hn hk hw (fun v0 v1 v2 v3 v4 v5 v6 c hf => ih hf) hf
def bX12_hole_0 (N : Nat)  (v0 : Nat) (v1 : Int32) (c : mm_C) : mR Int32 :=
  Option.bind (pI c v0 12 2 (0 : Int32)) fun c1 => cS (fX12_isIn N v1.toInt64 (0 : Int64) (3 : Int64) c1) fun r2 c3 => if ¬ r2 = 0 then (lX12_hole_36 N  N v0 v1 (0 : Int32) (0 : Int32) (0 : Int32) (-1 : Int32) (0 : Int32) c3) else (cV 12 v0 c3 (fX12_fail N v0 (1 : Int32) c3) fun r4 c5 => some (.inl r4, c5))
set_option maxRecDepth 100000 in
theorem wX12_hole_0 {Z : mm_Z} {X : mm_T} {k w mc ms d n N : Nat} {Q : mm_O → mm_H → Prop} (C : mm_Ok Z qX12_hole X) (hRm : mt_R X = mm_rm d mc ms) (hd : 2 ≤ d) (hn : n + 1 < 1000000) (hk : k + 1 ≤ mc) (hw : w + 6 ≤ ms) {v0 : Nat} {v1 : Int32} {c : mm_C} (hf : hO 0 ovI n (bX12_hole_0 N  v0 v1 c) Q) : mG Z qX12_hole X k w mc ms Q (0, [(0, .ref v0), (1, .int v1)], [], (n, c)) := by
  unfold bX12_hole_0 at hf
  refine mg_aload_n C rfl rfl ?_
  refine mg_iconst (v := 0) C rfl (by decide) ?_
  refine mh_pI C rfl rfl rfl (by decide) rfl rfl rfl hf (fun c1 hf => ?_)
  refine mg_iload_n C rfl rfl ?_
  refine mg_i2l C rfl ?_
  refine mg_lconst (v := 0) C rfl (by decide) ?_
  refine mg_ldc2_w C rfl rfl ?_
  refine mh_cSI (M' := qX12_isIn) C rfl rfl aX12_isIn tX12_isIn hRm (by omega) (by decide) (by omega) (by omega) rfl rfl (Nat.le_of_ble_eq_true rfl) rfl hf (fun hs => wX12_isIn (by omega) (by omega) hs) (fun r2 c3 hf => ?_)
  refine mh_if_ne C rfl hf (fun e_14 hf => ?_) (fun e_14 hf => ?_)
  · refine mg_iconst (v := 0) C rfl (by decide) ?_
    refine mg_istore_n (lv' := [(0, .ref v0), (1, .int v1), (2, .int (0 : Int32))]) C rfl (Nat.le_of_ble_eq_true rfl) rfl ?_
    refine mg_iconst (v := 0) C rfl (by decide) ?_
    refine mg_istore_n (lv' := [(0, .ref v0), (1, .int v1), (2, .int (0 : Int32)), (3, .int (0 : Int32))]) C rfl (Nat.le_of_ble_eq_true rfl) rfl ?_
    refine mg_iconst (v := 0) C rfl (by decide) ?_
    refine mg_istore (lv' := [(0, .ref v0), (1, .int v1), (2, .int (0 : Int32)), (3, .int (0 : Int32)), (4, .int (0 : Int32))]) C rfl (Nat.le_of_ble_eq_true rfl) rfl ?_
    refine mg_iconst (v := (-1)) C rfl (by decide) ?_
    refine mg_istore (lv' := [(0, .ref v0), (1, .int v1), (2, .int (0 : Int32)), (3, .int (0 : Int32)), (4, .int (0 : Int32)), (5, .int (-1 : Int32))]) C rfl (Nat.le_of_ble_eq_true rfl) rfl ?_
    refine mg_iconst (v := 0) C rfl (by decide) ?_
    refine mg_istore (lv' := [(0, .ref v0), (1, .int v1), (2, .int (0 : Int32)), (3, .int (0 : Int32)), (4, .int (0 : Int32)), (5, .int (-1 : Int32)), (6, .int (0 : Int32))]) C rfl (Nat.le_of_ble_eq_true rfl) rfl ?_
    exact WX12_hole_36 C hRm hd hn hk hw N hf
  · refine mg_aload_n C rfl rfl ?_
    refine mg_iconst (v := 1) C rfl (by decide) ?_
    refine mh_cVI (M' := qX12_fail) C rfl rfl aX12_fail iX12_fail sX12_fail hRm (by omega) (by decide) (by omega) (by omega) rfl rfl rfl (Nat.le_of_ble_eq_true rfl) rfl hf (fun hs => wX12_fail (by omega) (by omega) hs) (fun r4 c5 hf => ?_)
    exact mh_ireturn C rfl (by omega) (by omega) rfl hf
def fX12_hole (N : Nat) (v0 : Nat) (v1 : Int32) (c : mm_C) : mR Int32 := bX12_hole_0 N v0 v1 c
set_option maxRecDepth 100000 in
theorem wX12_hole {Z : mm_Z} {d n N : Nat} (hd : 2 ≤ d) (hn : n + 1 < 1000000) {v0 : Nat} {v1 : Int32} {c : mm_C} (hs : (fX12_hole N v0 v1 c).isSome = true) : mC Z qX12_hole d 1 6 [.ref v0, .int v1] (n, c) (mP 0 ovI n (fX12_hole N v0 v1 c)) := by
  refine mC_of gX12_hole (by decide +kernel) (Nat.le_of_ble_eq_true rfl) fun X C hRm => ?_
  have hf := hO_mP 0 ovI n hs
  have hk : 0 + 1 ≤ 1 := Nat.le_of_ble_eq_true rfl
  have hw : 0 + 6 ≤ 6 := Nat.le_of_ble_eq_true rfl
  show mG _ _ _ _ _ _ _ _ (0, [(0, .ref v0), (1, .int v1)], [], (n, c))
  exact wX12_hole_0 C hRm hd hn hk hw hf
def bX12_areChances_0 (N : Nat)  (v0 : Int32) (v1 : Int32) (c : mm_C) : mR Int32 :=
  cS (fX12_isIn N v0.toInt64 (0 : Int64) (10 : Int64) c) fun r1 c2 => if r1 = 0 then (rZ (0 : Int32) c2) else (cS (fX12_isIn N v1.toInt64 (1 : Int64) (9 : Int64) c2) fun r3 c4 => if r3 = 0 then (rZ (0 : Int32) c4) else (rZ (1 : Int32) c4))
set_option maxRecDepth 100000 in
theorem wX12_areChances_0 {Z : mm_Z} {X : mm_T} {k w mc ms d n N : Nat} {Q : mm_O → mm_H → Prop} (C : mm_Ok Z qX12_areChances X) (hRm : mt_R X = mm_rm d mc ms) (hd : 2 ≤ d) (hn : n + 1 < 1000000) (hk : k + 1 ≤ mc) (hw : w + 6 ≤ ms) {v0 : Int32} {v1 : Int32} {c : mm_C} (hf : hO 0 ovI n (bX12_areChances_0 N  v0 v1 c) Q) : mG Z qX12_areChances X k w mc ms Q (0, [(0, .int v0), (1, .int v1)], [], (n, c)) := by
  unfold bX12_areChances_0 at hf
  refine mg_iload_n C rfl rfl ?_
  refine mg_i2l C rfl ?_
  refine mg_lconst (v := 0) C rfl (by decide) ?_
  refine mg_ldc2_w C rfl rfl ?_
  refine mh_cSI (M' := qX12_isIn) C rfl rfl aX12_isIn tX12_isIn hRm (by omega) (by decide) (by omega) (by omega) rfl rfl (Nat.le_of_ble_eq_true rfl) rfl hf (fun hs => wX12_isIn (by omega) (by omega) hs) (fun r1 c2 hf => ?_)
  refine mh_if_eq C rfl hf (fun e_9 hf => ?_) (fun e_9 hf => ?_)
  · refine mg_iconst (v := 0) C rfl (by decide) ?_
    exact mh_zreturn C rfl (by omega) (by omega) rfl hf
  · refine mg_iload_n C rfl rfl ?_
    refine mg_i2l C rfl ?_
    refine mg_lconst (v := 1) C rfl (by decide) ?_
    refine mg_ldc2_w C rfl rfl ?_
    refine mh_cSI (M' := qX12_isIn) C rfl rfl aX12_isIn tX12_isIn hRm (by omega) (by decide) (by omega) (by omega) rfl rfl (Nat.le_of_ble_eq_true rfl) rfl hf (fun hs => wX12_isIn (by omega) (by omega) hs) (fun r3 c4 hf => ?_)
    refine mh_if_eq C rfl hf (fun e_21 hf => ?_) (fun e_21 hf => ?_)
    · refine mg_iconst (v := 0) C rfl (by decide) ?_
      exact mh_zreturn C rfl (by omega) (by omega) rfl hf
    · refine mg_iconst (v := 1) C rfl (by decide) ?_
      refine mg_goto C rfl ?_
      exact mh_zreturn C rfl (by omega) (by omega) rfl hf
def fX12_areChances (N : Nat) (v0 : Int32) (v1 : Int32) (c : mm_C) : mR Int32 := bX12_areChances_0 N v0 v1 c
set_option maxRecDepth 100000 in
theorem wX12_areChances {Z : mm_Z} {d n N : Nat} (hd : 2 ≤ d) (hn : n + 1 < 1000000) {v0 : Int32} {v1 : Int32} {c : mm_C} (hs : (fX12_areChances N v0 v1 c).isSome = true) : mC Z qX12_areChances d 1 6 [.int v0, .int v1] (n, c) (mP 0 ovI n (fX12_areChances N v0 v1 c)) := by
  refine mC_of gX12_areChances (by decide +kernel) (Nat.le_of_ble_eq_true rfl) fun X C hRm => ?_
  have hf := hO_mP 0 ovI n hs
  have hk : 0 + 1 ≤ 1 := Nat.le_of_ble_eq_true rfl
  have hw : 0 + 6 ≤ 6 := Nat.le_of_ble_eq_true rfl
  show mG _ _ _ _ _ _ _ _ (0, [(0, .int v0), (1, .int v1)], [], (n, c))
  exact wX12_areChances_0 C hRm hd hn hk hw hf
def bX12_power_22 (N : Nat)  (v2 : Int64) (c : mm_C) : mR Int64 :=
  some (.inl v2, c)
set_option maxRecDepth 100000 in
theorem wX12_power_22 {Z : mm_Z} {X : mm_T} {k w mc ms d n N : Nat} {Q : mm_O → mm_H → Prop} (C : mm_Ok Z qX12_power X) (hRm : mt_R X = mm_rm d mc ms) (hd : 1 ≤ d) (hn : n + 1 < 1000000) (hk : k + 1 ≤ mc) (hw : w + 6 ≤ ms) {v2 : Int64} {c : mm_C} (hf : hO 0 ovL n (bX12_power_22 N  v2 c) Q) : mG Z qX12_power X k w mc ms Q (22, [(2, .long v2)], [], (n, c)) := by
  unfold bX12_power_22 at hf
  refine mg_lload_n C rfl rfl ?_
  exact mh_lreturn C rfl (by omega) (by omega) rfl hf
def bX12_power_5 (N : Nat)  (k5 : Int32 → Int32 → Int64 → Int32 → mm_C → mR Int64) (v0 : Int32) (v1 : Int32) (v2 : Int64) (v4 : Int32) (c : mm_C) : mR Int64 :=
  if v1 ≤ v4 then (bX12_power_22 N  v2 c) else (k5 v0 v1 (v2 * v0.toInt64) (v4 + 1) c)
set_option maxRecDepth 100000 in
theorem wX12_power_5 {Z : mm_Z} {X : mm_T} {k w mc ms d n N : Nat} {Q : mm_O → mm_H → Prop} (C : mm_Ok Z qX12_power X) (hRm : mt_R X = mm_rm d mc ms) (hd : 1 ≤ d) (hn : n + 1 < 1000000) (hk : k + 1 ≤ mc) (hw : w + 6 ≤ ms) {k5 : Int32 → Int32 → Int64 → Int32 → mm_C → mR Int64} (hk5 : ∀ (v0 : Int32) (v1 : Int32) (v2 : Int64) (v4 : Int32) (c : mm_C), hO 0 ovL n (k5 v0 v1 v2 v4 c) Q → mG Z qX12_power X k w mc ms Q (5, [(0, .int v0), (1, .int v1), (2, .long v2), (4, .int v4)], [], (n, c))) {v0 : Int32} {v1 : Int32} {v2 : Int64} {v4 : Int32} {c : mm_C} (hf : hO 0 ovL n (bX12_power_5 N  k5 v0 v1 v2 v4 c) Q) : mG Z qX12_power X k w mc ms Q (5, [(0, .int v0), (1, .int v1), (2, .long v2), (4, .int v4)], [], (n, c)) := by
  unfold bX12_power_5 at hf
  refine mg_iload C rfl rfl ?_
  refine mg_iload_n C rfl rfl ?_
  refine mh_icmp_ge C rfl hf (fun e_8 hf => ?_) (fun e_8 hf => ?_)
  · refine mg_sub (lv' := [(2, .long v2)]) (by simp) ?_
    exact wX12_power_22 C hRm hd hn hk hw hf
  · refine mg_lload_n C rfl rfl ?_
    refine mg_iload_n C rfl rfl ?_
    refine mg_i2l C rfl ?_
    refine mg_lmul C rfl ?_
    refine mg_lstore_n (lv' := [(0, .int v0), (1, .int v1), (2, .long (v2 * v0.toInt64)), (4, .int v4)]) C rfl (Nat.le_of_ble_eq_true rfl) rfl ?_
    refine mg_iinc (lv' := [(0, .int v0), (1, .int v1), (2, .long (v2 * v0.toInt64)), (4, .int (v4 + 1))]) C rfl (Nat.le_of_ble_eq_true rfl) rfl (show _ + Int32.ofInt 1 = _ + 1 by congr 1) rfl ?_
    refine mg_goto C rfl ?_
    exact hk5 _ _ _ _ _ hf
def lX12_power_5 (N : Nat)  : Nat → Int32 → Int32 → Int64 → Int32 → mm_C → mR Int64
  | 0, _, _, _, _, _ => none
  | m + 1, v0, v1, v2, v4, c => bX12_power_5 N  (lX12_power_5 N  m) v0 v1 v2 v4 c
theorem WX12_power_5 {Z : mm_Z} {X : mm_T} {k w mc ms d n N : Nat} {Q : mm_O → mm_H → Prop} (C : mm_Ok Z qX12_power X) (hRm : mt_R X = mm_rm d mc ms) (hd : 1 ≤ d) (hn : n + 1 < 1000000) (hk : k + 1 ≤ mc) (hw : w + 6 ≤ ms) : ∀ (m : Nat) {v0 : Int32} {v1 : Int32} {v2 : Int64} {v4 : Int32} {c : mm_C} (hf : hO 0 ovL n (lX12_power_5 N  m v0 v1 v2 v4 c) Q), mG Z qX12_power X k w mc ms Q (5, [(0, .int v0), (1, .int v1), (2, .long v2), (4, .int v4)], [], (n, c)) := by
  intro m
  induction m with
  | zero => intro v0 v1 v2 v4 c hf; exact absurd hf hO_none
  | succ m ih => intro v0 v1 v2 v4 c hf; exact wX12_power_5 C hRm hd hn hk hw (fun v0 v1 v2 v4 c hf => ih hf) hf
def bX12_power_0 (N : Nat)  (v0 : Int32) (v1 : Int32) (c : mm_C) : mR Int64 :=
  lX12_power_5 N  N v0 v1 (1 : Int64) (0 : Int32) c
set_option maxRecDepth 100000 in
theorem wX12_power_0 {Z : mm_Z} {X : mm_T} {k w mc ms d n N : Nat} {Q : mm_O → mm_H → Prop} (C : mm_Ok Z qX12_power X) (hRm : mt_R X = mm_rm d mc ms) (hd : 1 ≤ d) (hn : n + 1 < 1000000) (hk : k + 1 ≤ mc) (hw : w + 6 ≤ ms) {v0 : Int32} {v1 : Int32} {c : mm_C} (hf : hO 0 ovL n (bX12_power_0 N  v0 v1 c) Q) : mG Z qX12_power X k w mc ms Q (0, [(0, .int v0), (1, .int v1)], [], (n, c)) := by
  unfold bX12_power_0 at hf
  refine mg_lconst (v := 1) C rfl (by decide) ?_
  refine mg_lstore_n (lv' := [(0, .int v0), (1, .int v1), (2, .long (1 : Int64))]) C rfl (Nat.le_of_ble_eq_true rfl) rfl ?_
  refine mg_iconst (v := 0) C rfl (by decide) ?_
  refine mg_istore (lv' := [(0, .int v0), (1, .int v1), (2, .long (1 : Int64)), (4, .int (0 : Int32))]) C rfl (Nat.le_of_ble_eq_true rfl) rfl ?_
  exact WX12_power_5 C hRm hd hn hk hw N hf
def fX12_power (N : Nat) (v0 : Int32) (v1 : Int32) (c : mm_C) : mR Int64 := bX12_power_0 N v0 v1 c
set_option maxRecDepth 100000 in
theorem wX12_power {Z : mm_Z} {d n N : Nat} (hd : 1 ≤ d) (hn : n + 1 < 1000000) {v0 : Int32} {v1 : Int32} {c : mm_C} (hs : (fX12_power N v0 v1 c).isSome = true) : mC Z qX12_power d 1 6 [.int v0, .int v1] (n, c) (mP 0 ovL n (fX12_power N v0 v1 c)) := by
  refine mC_of gX12_power (by decide +kernel) (Nat.le_of_ble_eq_true rfl) fun X C hRm => ?_
  have hf := hO_mP 0 ovL n hs
  have hk : 0 + 1 ≤ 1 := Nat.le_of_ble_eq_true rfl
  have hw : 0 + 6 ≤ 6 := Nat.le_of_ble_eq_true rfl
  show mG _ _ _ _ _ _ _ _ (0, [(0, .int v0), (1, .int v1)], [], (n, c))
  exact wX12_power_0 C hRm hd hn hk hw hf
def bX12_lasts_77 (N : Nat)  (s0 : Int64) (c : mm_C) : mR Int64 :=
  some (.inl s0, c)
set_option maxRecDepth 100000 in
theorem wX12_lasts_77 {Z : mm_Z} {X : mm_T} {k w mc ms d n N : Nat} {Q : mm_O → mm_H → Prop} (C : mm_Ok Z qX12_lasts X) (hRm : mt_R X = mm_rm d mc ms) (hd : 3 ≤ d) (hn : n + 1 < 1000000) (hk : k + 1 ≤ mc) (hw : w + 6 ≤ ms) {s0 : Int64} {c : mm_C} (hf : hO 0 ovL n (bX12_lasts_77 N  s0 c) Q) : mG Z qX12_lasts X k w mc ms Q (77, [], [.long s0], (n, c)) := by
  unfold bX12_lasts_77 at hf
  exact mh_lreturn C rfl (by omega) (by omega) rfl hf
def bX12_lasts_14 (N : Nat)  (v0 : Nat) (c : mm_C) : mR Int64 :=
  cV 12 v0 c (fX12_fail N v0 (1 : Int32) c) fun r1 c2 => some (.inl r1.toInt64, c2)
set_option maxRecDepth 100000 in
theorem wX12_lasts_14 {Z : mm_Z} {X : mm_T} {k w mc ms d n N : Nat} {Q : mm_O → mm_H → Prop} (C : mm_Ok Z qX12_lasts X) (hRm : mt_R X = mm_rm d mc ms) (hd : 3 ≤ d) (hn : n + 1 < 1000000) (hk : k + 1 ≤ mc) (hw : w + 6 ≤ ms) {v0 : Nat} {c : mm_C} (hf : hO 0 ovL n (bX12_lasts_14 N  v0 c) Q) : mG Z qX12_lasts X k w mc ms Q (14, [(0, .ref v0)], [], (n, c)) := by
  unfold bX12_lasts_14 at hf
  refine mg_aload_n C rfl rfl ?_
  refine mg_iconst (v := 1) C rfl (by decide) ?_
  refine mh_cVI (M' := qX12_fail) C rfl rfl aX12_fail iX12_fail sX12_fail hRm (by omega) (by decide) (by omega) (by omega) rfl rfl rfl (Nat.le_of_ble_eq_true rfl) rfl hf (fun hs => wX12_fail (by omega) (by omega) hs) (fun r1 c2 hf => ?_)
  refine mg_i2l C rfl ?_
  exact mh_lreturn C rfl (by omega) (by omega) rfl hf
def bX12_lasts_0 (N : Nat)  (v0 : Nat) (v1 : Int32) (v2 : Int32) (v3 : Int32) (c : mm_C) : mR Int64 :=
  Option.bind (pI c v0 12 2 (0 : Int32)) fun c1 => if v3 < 0 then (bX12_lasts_14 N  v0 c1) else (if v3 ≤ (1 : Int32) then (cS (fX12_areChances N v1 v2 c1) fun r2 c3 => if ¬ r2 = 0 then (cS (fX12_power N v1 v2 c3) fun r4 c5 => cS (fX12_power N (10 : Int32) v2 c5) fun r6 c7 => cS (fX12_common N r6 r4 c7) fun r8 c9 => if ¬ v3 = 0 then (Option.bind (dvL r6 r8) fun x10 => bX12_lasts_77 N  x10 c9) else (Option.bind (dvL r4 r8) fun x11 => bX12_lasts_77 N  x11 c9)) else (cV 12 v0 c3 (fX12_fail N v0 (2 : Int32) c3) fun r12 c13 => some (.inl r12.toInt64, c13))) else (bX12_lasts_14 N  v0 c1))
set_option maxRecDepth 100000 in
theorem wX12_lasts_0 {Z : mm_Z} {X : mm_T} {k w mc ms d n N : Nat} {Q : mm_O → mm_H → Prop} (C : mm_Ok Z qX12_lasts X) (hRm : mt_R X = mm_rm d mc ms) (hd : 3 ≤ d) (hn : n + 1 < 1000000) (hk : k + 1 ≤ mc) (hw : w + 6 ≤ ms) {v0 : Nat} {v1 : Int32} {v2 : Int32} {v3 : Int32} {c : mm_C} (hf : hO 0 ovL n (bX12_lasts_0 N  v0 v1 v2 v3 c) Q) : mG Z qX12_lasts X k w mc ms Q (0, [(0, .ref v0), (1, .int v1), (2, .int v2), (3, .int v3)], [], (n, c)) := by
  unfold bX12_lasts_0 at hf
  refine mg_aload_n C rfl rfl ?_
  refine mg_iconst (v := 0) C rfl (by decide) ?_
  refine mh_pI C rfl rfl rfl (by decide) rfl rfl rfl hf (fun c1 hf => ?_)
  refine mg_iload_n C rfl rfl ?_
  refine mh_if_lt C rfl hf (fun e_6 hf => ?_) (fun e_6 hf => ?_)
  · refine mg_sub (lv' := [(0, .ref v0)]) (by simp) ?_
    exact wX12_lasts_14 C hRm hd hn hk hw hf
  · refine mg_iload_n C rfl rfl ?_
    refine mg_iconst (v := 1) C rfl (by decide) ?_
    refine mh_icmp_le C rfl hf (fun e_11 hf => ?_) (fun e_11 hf => ?_)
    · refine mg_iload_n C rfl rfl ?_
      refine mg_iload_n C rfl rfl ?_
      refine mh_cSI (M' := qX12_areChances) C rfl rfl aX12_areChances tX12_areChances hRm (by omega) (by decide) (by omega) (by omega) rfl rfl (Nat.le_of_ble_eq_true rfl) rfl hf (fun hs => wX12_areChances (by omega) (by omega) hs) (fun r2 c3 hf => ?_)
      refine mh_if_ne C rfl hf (fun e_26 hf => ?_) (fun e_26 hf => ?_)
      · refine mg_iload_n C rfl rfl ?_
        refine mg_iload_n C rfl rfl ?_
        refine mh_cSL (M' := qX12_power) C rfl rfl aX12_power tX12_power hRm (by omega) (by decide) (by omega) (by omega) rfl rfl (Nat.le_of_ble_eq_true rfl) rfl hf (fun hs => wX12_power (by omega) (by omega) hs) (fun r4 c5 hf => ?_)
        refine mg_lstore (lv' := [(0, .ref v0), (1, .int v1), (2, .int v2), (3, .int v3), (4, .long r4)]) C rfl (Nat.le_of_ble_eq_true rfl) rfl ?_
        refine mg_bipush (v := 10) C rfl (by decide) ?_
        refine mg_iload_n C rfl rfl ?_
        refine mh_cSL (M' := qX12_power) C rfl rfl aX12_power tX12_power hRm (by omega) (by decide) (by omega) (by omega) rfl rfl (Nat.le_of_ble_eq_true rfl) rfl hf (fun hs => wX12_power (by omega) (by omega) hs) (fun r6 c7 hf => ?_)
        refine mg_lstore (lv' := [(0, .ref v0), (1, .int v1), (2, .int v2), (3, .int v3), (4, .long r4), (6, .long r6)]) C rfl (Nat.le_of_ble_eq_true rfl) rfl ?_
        refine mg_lload C rfl rfl ?_
        refine mg_lload C rfl rfl ?_
        refine mh_cSL (M' := qX12_common) C rfl rfl aX12_common tX12_common hRm (by omega) (by decide) (by omega) (by omega) rfl rfl (Nat.le_of_ble_eq_true rfl) rfl hf (fun hs => wX12_common (by omega) (by omega) hs) (fun r8 c9 hf => ?_)
        refine mg_lstore (lv' := [(0, .ref v0), (1, .int v1), (2, .int v2), (3, .int v3), (4, .long r4), (6, .long r6), (8, .long r8)]) C rfl (Nat.le_of_ble_eq_true rfl) rfl ?_
        refine mg_iload_n C rfl rfl ?_
        refine mh_if_ne C rfl hf (fun e_61 hf => ?_) (fun e_61 hf => ?_)
        · refine mg_lload C rfl rfl ?_
          refine mg_lload C rfl rfl ?_
          refine mh_ldiv C rfl hf (fun x10 hf => ?_)
          refine mg_sub (lv' := []) (by simp) ?_
          exact wX12_lasts_77 C hRm hd hn hk hw hf
        · refine mg_lload C rfl rfl ?_
          refine mg_lload C rfl rfl ?_
          refine mh_ldiv C rfl hf (fun x11 hf => ?_)
          refine mg_goto C rfl ?_
          refine mg_sub (lv' := []) (by simp) ?_
          exact wX12_lasts_77 C hRm hd hn hk hw hf
      · refine mg_aload_n C rfl rfl ?_
        refine mg_iconst (v := 2) C rfl (by decide) ?_
        refine mh_cVI (M' := qX12_fail) C rfl rfl aX12_fail iX12_fail sX12_fail hRm (by omega) (by decide) (by omega) (by omega) rfl rfl rfl (Nat.le_of_ble_eq_true rfl) rfl hf (fun hs => wX12_fail (by omega) (by omega) hs) (fun r12 c13 hf => ?_)
        refine mg_i2l C rfl ?_
        exact mh_lreturn C rfl (by omega) (by omega) rfl hf
    · refine mg_sub (lv' := [(0, .ref v0)]) (by simp) ?_
      exact wX12_lasts_14 C hRm hd hn hk hw hf
def fX12_lasts (N : Nat) (v0 : Nat) (v1 : Int32) (v2 : Int32) (v3 : Int32) (c : mm_C) : mR Int64 := bX12_lasts_0 N v0 v1 v2 v3 c
set_option maxRecDepth 100000 in
theorem wX12_lasts {Z : mm_Z} {d n N : Nat} (hd : 3 ≤ d) (hn : n + 1 < 1000000) {v0 : Nat} {v1 : Int32} {v2 : Int32} {v3 : Int32} {c : mm_C} (hs : (fX12_lasts N v0 v1 v2 v3 c).isSome = true) : mC Z qX12_lasts d 1 6 [.ref v0, .int v1, .int v2, .int v3] (n, c) (mP 0 ovL n (fX12_lasts N v0 v1 v2 v3 c)) := by
  refine mC_of gX12_lasts (by decide +kernel) (Nat.le_of_ble_eq_true rfl) fun X C hRm => ?_
  have hf := hO_mP 0 ovL n hs
  have hk : 0 + 1 ≤ 1 := Nat.le_of_ble_eq_true rfl
  have hw : 0 + 6 ≤ 6 := Nat.le_of_ble_eq_true rfl
  show mG _ _ _ _ _ _ _ _ (0, [(0, .ref v0), (1, .int v1), (2, .int v2), (3, .int v3)], [], (n, c))
  exact wX12_lasts_0 C hRm hd hn hk hw hf
def bX12_trial_112 (N : Nat)  (v5 : Int64) (c : mm_C) : mR Int64 :=
  some (.inl v5, c)
set_option maxRecDepth 100000 in
theorem wX12_trial_112 {Z : mm_Z} {X : mm_T} {k w mc ms d n N : Nat} {Q : mm_O → mm_H → Prop} (C : mm_Ok Z qX12_trial X) (hRm : mt_R X = mm_rm d mc ms) (hd : 3 ≤ d) (hn : n + 1 < 1000000) (hk : k + 1 ≤ mc) (hw : w + 6 ≤ ms) {v5 : Int64} {c : mm_C} (hf : hO 0 ovL n (bX12_trial_112 N  v5 c) Q) : mG Z qX12_trial X k w mc ms Q (112, [(5, .long v5)], [], (n, c)) := by
  unfold bX12_trial_112 at hf
  refine mg_lload C rfl rfl ?_
  exact mh_lreturn C rfl (by omega) (by omega) rfl hf
def bX12_trial_63 (N : Nat)  (k63 : Int32 → Int32 → Int32 → Int64 → Int32 → mm_C → mR Int64) (v1 : Int32) (v2 : Int32) (v4 : Int32) (v5 : Int64) (v7 : Int32) (c : mm_C) : mR Int64 :=
  if v2 < v7 then (bX12_trial_112 N  v5 c) else (cS (fX12_power N v1 (v7 - (1 : Int32)) c) fun r1 c2 => cS (fX12_power N (10 : Int32) (v2 - v7) c2) fun r3 c4 => k63 v1 v2 v4 (v5 - ((((r1 * ((10 : Int32) - v1).toInt64) * r3) * v4.toInt64) * v7.toInt64)) (v7 + 1) c4)
set_option maxRecDepth 100000 in
theorem wX12_trial_63 {Z : mm_Z} {X : mm_T} {k w mc ms d n N : Nat} {Q : mm_O → mm_H → Prop} (C : mm_Ok Z qX12_trial X) (hRm : mt_R X = mm_rm d mc ms) (hd : 3 ≤ d) (hn : n + 1 < 1000000) (hk : k + 1 ≤ mc) (hw : w + 6 ≤ ms) {k63 : Int32 → Int32 → Int32 → Int64 → Int32 → mm_C → mR Int64} (hk63 : ∀ (v1 : Int32) (v2 : Int32) (v4 : Int32) (v5 : Int64) (v7 : Int32) (c : mm_C), hO 0 ovL n (k63 v1 v2 v4 v5 v7 c) Q → mG Z qX12_trial X k w mc ms Q (63, [(1, .int v1), (2, .int v2), (4, .int v4), (5, .long v5), (7, .int v7)], [], (n, c))) {v1 : Int32} {v2 : Int32} {v4 : Int32} {v5 : Int64} {v7 : Int32} {c : mm_C} (hf : hO 0 ovL n (bX12_trial_63 N  k63 v1 v2 v4 v5 v7 c) Q) : mG Z qX12_trial X k w mc ms Q (63, [(1, .int v1), (2, .int v2), (4, .int v4), (5, .long v5), (7, .int v7)], [], (n, c)) := by
  unfold bX12_trial_63 at hf
  refine mg_iload C rfl rfl ?_
  refine mg_iload_n C rfl rfl ?_
  refine mh_icmp_gt C rfl hf (fun e_66 hf => ?_) (fun e_66 hf => ?_)
  · refine mg_sub (lv' := [(5, .long v5)]) (by simp) ?_
    exact wX12_trial_112 C hRm hd hn hk hw hf
  · refine mg_lload C rfl rfl ?_
    refine mg_iload_n C rfl rfl ?_
    refine mg_iload C rfl rfl ?_
    refine mg_iconst (v := 1) C rfl (by decide) ?_
    refine mg_isub C rfl ?_
    refine mh_cSL (M' := qX12_power) C rfl rfl aX12_power tX12_power hRm (by omega) (by decide) (by omega) (by omega) rfl rfl (Nat.le_of_ble_eq_true rfl) rfl hf (fun hs => wX12_power (by omega) (by omega) hs) (fun r1 c2 hf => ?_)
    refine mg_bipush (v := 10) C rfl (by decide) ?_
    refine mg_iload_n C rfl rfl ?_
    refine mg_isub C rfl ?_
    refine mg_i2l C rfl ?_
    refine mg_lmul C rfl ?_
    refine mg_bipush (v := 10) C rfl (by decide) ?_
    refine mg_iload_n C rfl rfl ?_
    refine mg_iload C rfl rfl ?_
    refine mg_isub C rfl ?_
    refine mh_cSL (M' := qX12_power) C rfl rfl aX12_power tX12_power hRm (by omega) (by decide) (by omega) (by omega) rfl rfl (Nat.le_of_ble_eq_true rfl) rfl hf (fun hs => wX12_power (by omega) (by omega) hs) (fun r3 c4 hf => ?_)
    refine mg_lmul C rfl ?_
    refine mg_iload C rfl rfl ?_
    refine mg_i2l C rfl ?_
    refine mg_lmul C rfl ?_
    refine mg_iload C rfl rfl ?_
    refine mg_i2l C rfl ?_
    refine mg_lmul C rfl ?_
    refine mg_lsub C rfl ?_
    refine mg_lstore (lv' := [(1, .int v1), (2, .int v2), (4, .int v4), (5, .long (v5 - ((((r1 * ((10 : Int32) - v1).toInt64) * r3) * v4.toInt64) * v7.toInt64))), (7, .int v7)]) C rfl (Nat.le_of_ble_eq_true rfl) rfl ?_
    refine mg_iinc (lv' := [(1, .int v1), (2, .int v2), (4, .int v4), (5, .long (v5 - ((((r1 * ((10 : Int32) - v1).toInt64) * r3) * v4.toInt64) * v7.toInt64))), (7, .int (v7 + 1))]) C rfl (Nat.le_of_ble_eq_true rfl) rfl (show _ + Int32.ofInt 1 = _ + 1 by congr 1) rfl ?_
    refine mg_goto C rfl ?_
    exact hk63 _ _ _ _ _ _ hf
def lX12_trial_63 (N : Nat)  : Nat → Int32 → Int32 → Int32 → Int64 → Int32 → mm_C → mR Int64
  | 0, _, _, _, _, _, _ => none
  | m + 1, v1, v2, v4, v5, v7, c => bX12_trial_63 N  (lX12_trial_63 N  m) v1 v2 v4 v5 v7 c
theorem WX12_trial_63 {Z : mm_Z} {X : mm_T} {k w mc ms d n N : Nat} {Q : mm_O → mm_H → Prop} (C : mm_Ok Z qX12_trial X) (hRm : mt_R X = mm_rm d mc ms) (hd : 3 ≤ d) (hn : n + 1 < 1000000) (hk : k + 1 ≤ mc) (hw : w + 6 ≤ ms) : ∀ (m : Nat) {v1 : Int32} {v2 : Int32} {v4 : Int32} {v5 : Int64} {v7 : Int32} {c : mm_C} (hf : hO 0 ovL n (lX12_trial_63 N  m v1 v2 v4 v5 v7 c) Q), mG Z qX12_trial X k w mc ms Q (63, [(1, .int v1), (2, .int v2), (4, .int v4), (5, .long v5), (7, .int v7)], [], (n, c)) := by
  intro m
  induction m with
  | zero => intro v1 v2 v4 v5 v7 c hf; exact absurd hf hO_none
  | succ m ih => intro v1 v2 v4 v5 v7 c hf; exact wX12_trial_63 C hRm hd hn hk hw (fun v1 v2 v4 v5 v7 c hf => ih hf) hf
def bX12_trial_38 (N : Nat)  (v0 : Nat) (c : mm_C) : mR Int64 :=
  cV 12 v0 c (fX12_fail N v0 (1 : Int32) c) fun r1 c2 => some (.inl r1.toInt64, c2)
set_option maxRecDepth 100000 in
theorem wX12_trial_38 {Z : mm_Z} {X : mm_T} {k w mc ms d n N : Nat} {Q : mm_O → mm_H → Prop} (C : mm_Ok Z qX12_trial X) (hRm : mt_R X = mm_rm d mc ms) (hd : 3 ≤ d) (hn : n + 1 < 1000000) (hk : k + 1 ≤ mc) (hw : w + 6 ≤ ms) {v0 : Nat} {c : mm_C} (hf : hO 0 ovL n (bX12_trial_38 N  v0 c) Q) : mG Z qX12_trial X k w mc ms Q (38, [(0, .ref v0)], [], (n, c)) := by
  unfold bX12_trial_38 at hf
  refine mg_aload_n C rfl rfl ?_
  refine mg_iconst (v := 1) C rfl (by decide) ?_
  refine mh_cVI (M' := qX12_fail) C rfl rfl aX12_fail iX12_fail sX12_fail hRm (by omega) (by decide) (by omega) (by omega) rfl rfl rfl (Nat.le_of_ble_eq_true rfl) rfl hf (fun hs => wX12_fail (by omega) (by omega) hs) (fun r1 c2 hf => ?_)
  refine mg_i2l C rfl ?_
  exact mh_lreturn C rfl (by omega) (by omega) rfl hf
def bX12_trial_0 (N : Nat)  (v0 : Nat) (v1 : Int32) (v2 : Int32) (v3 : Int32) (v4 : Int32) (c : mm_C) : mR Int64 :=
  Option.bind (pI c v0 12 2 (0 : Int32)) fun c1 => cS (fX12_areChances N v1 v2 c1) fun r2 c3 => if r2 = 0 then (bX12_trial_38 N  v0 c3) else (cS (fX12_isIn N v3.toInt64 (0 : Int64) (999 : Int64) c3) fun r4 c5 => if r4 = 0 then (bX12_trial_38 N  v0 c5) else (cS (fX12_isIn N v4.toInt64 (0 : Int64) (99 : Int64) c5) fun r6 c7 => if ¬ r6 = 0 then (cS (fX12_power N v1 v2 c7) fun r8 c9 => lX12_trial_63 N  N v1 v2 v4 (r8 * (v3 - (v4 * v2)).toInt64) (1 : Int32) c9) else (bX12_trial_38 N  v0 c7)))
set_option maxRecDepth 100000 in
theorem wX12_trial_0 {Z : mm_Z} {X : mm_T} {k w mc ms d n N : Nat} {Q : mm_O → mm_H → Prop} (C : mm_Ok Z qX12_trial X) (hRm : mt_R X = mm_rm d mc ms) (hd : 3 ≤ d) (hn : n + 1 < 1000000) (hk : k + 1 ≤ mc) (hw : w + 6 ≤ ms) {v0 : Nat} {v1 : Int32} {v2 : Int32} {v3 : Int32} {v4 : Int32} {c : mm_C} (hf : hO 0 ovL n (bX12_trial_0 N  v0 v1 v2 v3 v4 c) Q) : mG Z qX12_trial X k w mc ms Q (0, [(0, .ref v0), (1, .int v1), (2, .int v2), (3, .int v3), (4, .int v4)], [], (n, c)) := by
  unfold bX12_trial_0 at hf
  refine mg_aload_n C rfl rfl ?_
  refine mg_iconst (v := 0) C rfl (by decide) ?_
  refine mh_pI C rfl rfl rfl (by decide) rfl rfl rfl hf (fun c1 hf => ?_)
  refine mg_iload_n C rfl rfl ?_
  refine mg_iload_n C rfl rfl ?_
  refine mh_cSI (M' := qX12_areChances) C rfl rfl aX12_areChances tX12_areChances hRm (by omega) (by decide) (by omega) (by omega) rfl rfl (Nat.le_of_ble_eq_true rfl) rfl hf (fun hs => wX12_areChances (by omega) (by omega) hs) (fun r2 c3 hf => ?_)
  refine mh_if_eq C rfl hf (fun e_10 hf => ?_) (fun e_10 hf => ?_)
  · refine mg_sub (lv' := [(0, .ref v0)]) (by simp) ?_
    exact wX12_trial_38 C hRm hd hn hk hw hf
  · refine mg_iload_n C rfl rfl ?_
    refine mg_i2l C rfl ?_
    refine mg_lconst (v := 0) C rfl (by decide) ?_
    refine mg_ldc2_w C rfl rfl ?_
    refine mh_cSI (M' := qX12_isIn) C rfl rfl aX12_isIn tX12_isIn hRm (by omega) (by decide) (by omega) (by omega) rfl rfl (Nat.le_of_ble_eq_true rfl) rfl hf (fun hs => wX12_isIn (by omega) (by omega) hs) (fun r4 c5 hf => ?_)
    refine mh_if_eq C rfl hf (fun e_22 hf => ?_) (fun e_22 hf => ?_)
    · refine mg_sub (lv' := [(0, .ref v0)]) (by simp) ?_
      exact wX12_trial_38 C hRm hd hn hk hw hf
    · refine mg_iload C rfl rfl ?_
      refine mg_i2l C rfl ?_
      refine mg_lconst (v := 0) C rfl (by decide) ?_
      refine mg_ldc2_w C rfl rfl ?_
      refine mh_cSI (M' := qX12_isIn) C rfl rfl aX12_isIn tX12_isIn hRm (by omega) (by decide) (by omega) (by omega) rfl rfl (Nat.le_of_ble_eq_true rfl) rfl hf (fun hs => wX12_isIn (by omega) (by omega) hs) (fun r6 c7 hf => ?_)
      refine mh_if_ne C rfl hf (fun e_35 hf => ?_) (fun e_35 hf => ?_)
      · refine mg_iload_n C rfl rfl ?_
        refine mg_iload_n C rfl rfl ?_
        refine mh_cSL (M' := qX12_power) C rfl rfl aX12_power tX12_power hRm (by omega) (by decide) (by omega) (by omega) rfl rfl (Nat.le_of_ble_eq_true rfl) rfl hf (fun hs => wX12_power (by omega) (by omega) hs) (fun r8 c9 hf => ?_)
        refine mg_iload_n C rfl rfl ?_
        refine mg_iload C rfl rfl ?_
        refine mg_iload_n C rfl rfl ?_
        refine mg_imul C rfl ?_
        refine mg_isub C rfl ?_
        refine mg_i2l C rfl ?_
        refine mg_lmul C rfl ?_
        refine mg_lstore (lv' := [(0, .ref v0), (1, .int v1), (2, .int v2), (3, .int v3), (4, .int v4), (5, .long (r8 * (v3 - (v4 * v2)).toInt64))]) C rfl (Nat.le_of_ble_eq_true rfl) rfl ?_
        refine mg_iconst (v := 1) C rfl (by decide) ?_
        refine mg_istore (lv' := [(0, .ref v0), (1, .int v1), (2, .int v2), (3, .int v3), (4, .int v4), (5, .long (r8 * (v3 - (v4 * v2)).toInt64)), (7, .int (1 : Int32))]) C rfl (Nat.le_of_ble_eq_true rfl) rfl ?_
        refine mg_sub (lv' := [(1, .int v1), (2, .int v2), (4, .int v4), (5, .long (r8 * (v3 - (v4 * v2)).toInt64)), (7, .int (1 : Int32))]) (by simp) ?_
        exact WX12_trial_63 C hRm hd hn hk hw N hf
      · refine mg_sub (lv' := [(0, .ref v0)]) (by simp) ?_
        exact wX12_trial_38 C hRm hd hn hk hw hf
def fX12_trial (N : Nat) (v0 : Nat) (v1 : Int32) (v2 : Int32) (v3 : Int32) (v4 : Int32) (c : mm_C) : mR Int64 := bX12_trial_0 N v0 v1 v2 v3 v4 c
set_option maxRecDepth 100000 in
theorem wX12_trial {Z : mm_Z} {d n N : Nat} (hd : 3 ≤ d) (hn : n + 1 < 1000000) {v0 : Nat} {v1 : Int32} {v2 : Int32} {v3 : Int32} {v4 : Int32} {c : mm_C} (hs : (fX12_trial N v0 v1 v2 v3 v4 c).isSome = true) : mC Z qX12_trial d 1 6 [.ref v0, .int v1, .int v2, .int v3, .int v4] (n, c) (mP 0 ovL n (fX12_trial N v0 v1 v2 v3 v4 c)) := by
  refine mC_of gX12_trial (by decide +kernel) (Nat.le_of_ble_eq_true rfl) fun X C hRm => ?_
  have hf := hO_mP 0 ovL n hs
  have hk : 0 + 1 ≤ 1 := Nat.le_of_ble_eq_true rfl
  have hw : 0 + 6 ≤ 6 := Nat.le_of_ble_eq_true rfl
  show mG _ _ _ _ _ _ _ _ (0, [(0, .ref v0), (1, .int v1), (2, .int v2), (3, .int v3), (4, .int v4)], [], (n, c))
  exact wX12_trial_0 C hRm hd hn hk hw hf
def bX12_see_83 (N : Nat)  (v0 : Nat) (s0 : Nat) (s1 : Int32) (s2 : Int32) (c : mm_C) : mR Int32 :=
  Option.bind (tI c s0 s1 s2) fun c1 => Option.bind (gI c1 v0 12 29) fun x2 => Option.bind (pI c1 v0 12 29 (x2 + (1 : Int32))) fun c3 => Option.bind (gI c3 v0 12 29) fun x4 => some (.inl x4, c3)
set_option maxRecDepth 100000 in
theorem wX12_see_83 {Z : mm_Z} {X : mm_T} {k w mc ms d n N : Nat} {Q : mm_O → mm_H → Prop} (C : mm_Ok Z qX12_see X) (hRm : mt_R X = mm_rm d mc ms) (hd : 3 ≤ d) (hn : n + 1 < 1000000) (hk : k + 1 ≤ mc) (hw : w + 6 ≤ ms) {v0 : Nat} {s0 : Nat} {s1 : Int32} {s2 : Int32} {c : mm_C} (hf : hO 0 ovI n (bX12_see_83 N  v0 s0 s1 s2 c) Q) : mG Z qX12_see X k w mc ms Q (83, [(0, .ref v0)], [.int s2, .int s1, .ref s0], (n, c)) := by
  unfold bX12_see_83 at hf
  refine mh_tI C rfl hf (fun c1 hf => ?_)
  refine mg_aload_n C rfl rfl ?_
  refine mg_dup C rfl rfl ?_
  refine mh_gI C rfl rfl rfl (by decide) hf (fun x2 hf => ?_)
  refine mg_iconst (v := 1) C rfl (by decide) ?_
  refine mg_iadd C rfl ?_
  refine mh_pI C rfl rfl rfl (by decide) rfl rfl rfl hf (fun c3 hf => ?_)
  refine mg_aload_n C rfl rfl ?_
  refine mh_gI C rfl rfl rfl (by decide) hf (fun x4 hf => ?_)
  exact mh_ireturn C rfl (by omega) (by omega) rfl hf
def bX12_see_40 (N : Nat)  (v0 : Nat) (c : mm_C) : mR Int32 :=
  cV 12 v0 c (fX12_refuse N v0 (2 : Int32) c) fun r1 c2 => some (.inl r1, c2)
set_option maxRecDepth 100000 in
theorem wX12_see_40 {Z : mm_Z} {X : mm_T} {k w mc ms d n N : Nat} {Q : mm_O → mm_H → Prop} (C : mm_Ok Z qX12_see X) (hRm : mt_R X = mm_rm d mc ms) (hd : 3 ≤ d) (hn : n + 1 < 1000000) (hk : k + 1 ≤ mc) (hw : w + 6 ≤ ms) {v0 : Nat} {c : mm_C} (hf : hO 0 ovI n (bX12_see_40 N  v0 c) Q) : mG Z qX12_see X k w mc ms Q (40, [(0, .ref v0)], [], (n, c)) := by
  unfold bX12_see_40 at hf
  refine mg_aload_n C rfl rfl ?_
  refine mg_iconst (v := 2) C rfl (by decide) ?_
  refine mh_cVI (M' := qX12_refuse) C rfl rfl aX12_refuse iX12_refuse sX12_refuse hRm (by omega) (by decide) (by omega) (by omega) rfl rfl rfl (Nat.le_of_ble_eq_true rfl) rfl hf (fun hs => wX12_refuse (by omega) (by omega) hs) (fun r1 c2 hf => ?_)
  exact mh_ireturn C rfl (by omega) (by omega) rfl hf
def bX12_see_0 (N : Nat)  (v0 : Nat) (v1 : Int32) (v2 : Int32) (v3 : Int32) (c : mm_C) : mR Int32 :=
  Option.bind (pI c v0 12 2 (0 : Int32)) fun c1 => cV 12 v0 c1 (fX12_isShot N v0 v1 c1) fun r2 c3 => if ¬ r2 = 0 then (Option.bind (gI c3 v0 12 29) fun x4 => if x4 = (8 : Int32) then (bX12_see_40 N  v0 c3) else (cS (fX12_isIn N v2.toInt64 (0 : Int64) (479 : Int64) c3) fun r5 c6 => if ¬ r5 = 0 then (Option.bind (gR c6 v0 12 47) fun x7 => Option.bind (gI c6 v0 12 29) fun x8 => Option.bind (tI c6 x7 x8 v1) fun c9 => Option.bind (gR c9 v0 12 48) fun x10 => Option.bind (gI c9 v0 12 29) fun x11 => Option.bind (tI c9 x10 x11 v2) fun c12 => Option.bind (gR c12 v0 12 49) fun x13 => Option.bind (gI c12 v0 12 29) fun x14 => if v3 = 0 then (bX12_see_83 N  v0 x13 x14 (0 : Int32) c12) else (bX12_see_83 N  v0 x13 x14 (1 : Int32) c12)) else (bX12_see_40 N  v0 c6))) else (cV 12 v0 c3 (fX12_fail N v0 (1 : Int32) c3) fun r15 c16 => some (.inl r15, c16))
set_option maxRecDepth 100000 in
theorem wX12_see_0 {Z : mm_Z} {X : mm_T} {k w mc ms d n N : Nat} {Q : mm_O → mm_H → Prop} (C : mm_Ok Z qX12_see X) (hRm : mt_R X = mm_rm d mc ms) (hd : 3 ≤ d) (hn : n + 1 < 1000000) (hk : k + 1 ≤ mc) (hw : w + 6 ≤ ms) {v0 : Nat} {v1 : Int32} {v2 : Int32} {v3 : Int32} {c : mm_C} (hf : hO 0 ovI n (bX12_see_0 N  v0 v1 v2 v3 c) Q) : mG Z qX12_see X k w mc ms Q (0, [(0, .ref v0), (1, .int v1), (2, .int v2), (3, .int v3)], [], (n, c)) := by
  unfold bX12_see_0 at hf
  refine mg_aload_n C rfl rfl ?_
  refine mg_iconst (v := 0) C rfl (by decide) ?_
  refine mh_pI C rfl rfl rfl (by decide) rfl rfl rfl hf (fun c1 hf => ?_)
  refine mg_aload_n C rfl rfl ?_
  refine mg_iload_n C rfl rfl ?_
  refine mh_cVI (M' := qX12_isShot) C rfl rfl aX12_isShot iX12_isShot sX12_isShot hRm (by omega) (by decide) (by omega) (by omega) rfl rfl rfl (Nat.le_of_ble_eq_true rfl) rfl hf (fun hs => wX12_isShot (by omega) (by omega) hs) (fun r2 c3 hf => ?_)
  refine mh_if_ne C rfl hf (fun e_10 hf => ?_) (fun e_10 hf => ?_)
  · refine mg_aload_n C rfl rfl ?_
    refine mh_gI C rfl rfl rfl (by decide) hf (fun x4 hf => ?_)
    refine mg_bipush (v := 8) C rfl (by decide) ?_
    refine mh_icmp_eq C rfl hf (fun e_25 hf => ?_) (fun e_25 hf => ?_)
    · refine mg_sub (lv' := [(0, .ref v0)]) (by simp) ?_
      exact wX12_see_40 C hRm hd hn hk hw hf
    · refine mg_iload_n C rfl rfl ?_
      refine mg_i2l C rfl ?_
      refine mg_lconst (v := 0) C rfl (by decide) ?_
      refine mg_ldc2_w C rfl rfl ?_
      refine mh_cSI (M' := qX12_isIn) C rfl rfl aX12_isIn tX12_isIn hRm (by omega) (by decide) (by omega) (by omega) rfl rfl (Nat.le_of_ble_eq_true rfl) rfl hf (fun hs => wX12_isIn (by omega) (by omega) hs) (fun r5 c6 hf => ?_)
      refine mh_if_ne C rfl hf (fun e_37 hf => ?_) (fun e_37 hf => ?_)
      · refine mg_aload_n C rfl rfl ?_
        refine mh_gR C rfl rfl rfl (by decide) hf (fun x7 hf => ?_)
        refine mg_aload_n C rfl rfl ?_
        refine mh_gI C rfl rfl rfl (by decide) hf (fun x8 hf => ?_)
        refine mg_iload_n C rfl rfl ?_
        refine mh_tI C rfl hf (fun c9 hf => ?_)
        refine mg_aload_n C rfl rfl ?_
        refine mh_gR C rfl rfl rfl (by decide) hf (fun x10 hf => ?_)
        refine mg_aload_n C rfl rfl ?_
        refine mh_gI C rfl rfl rfl (by decide) hf (fun x11 hf => ?_)
        refine mg_iload_n C rfl rfl ?_
        refine mh_tI C rfl hf (fun c12 hf => ?_)
        refine mg_aload_n C rfl rfl ?_
        refine mh_gR C rfl rfl rfl (by decide) hf (fun x13 hf => ?_)
        refine mg_aload_n C rfl rfl ?_
        refine mh_gI C rfl rfl rfl (by decide) hf (fun x14 hf => ?_)
        refine mg_iload_n C rfl rfl ?_
        refine mh_if_eq C rfl hf (fun e_75 hf => ?_) (fun e_75 hf => ?_)
        · refine mg_iconst (v := 0) C rfl (by decide) ?_
          refine mg_sub (lv' := [(0, .ref v0)]) (by simp) ?_
          exact wX12_see_83 C hRm hd hn hk hw hf
        · refine mg_iconst (v := 1) C rfl (by decide) ?_
          refine mg_goto C rfl ?_
          refine mg_sub (lv' := [(0, .ref v0)]) (by simp) ?_
          exact wX12_see_83 C hRm hd hn hk hw hf
      · refine mg_sub (lv' := [(0, .ref v0)]) (by simp) ?_
        exact wX12_see_40 C hRm hd hn hk hw hf
  · refine mg_aload_n C rfl rfl ?_
    refine mg_iconst (v := 1) C rfl (by decide) ?_
    refine mh_cVI (M' := qX12_fail) C rfl rfl aX12_fail iX12_fail sX12_fail hRm (by omega) (by decide) (by omega) (by omega) rfl rfl rfl (Nat.le_of_ble_eq_true rfl) rfl hf (fun hs => wX12_fail (by omega) (by omega) hs) (fun r15 c16 hf => ?_)
    exact mh_ireturn C rfl (by omega) (by omega) rfl hf
def fX12_see (N : Nat) (v0 : Nat) (v1 : Int32) (v2 : Int32) (v3 : Int32) (c : mm_C) : mR Int32 := bX12_see_0 N v0 v1 v2 v3 c
set_option maxRecDepth 100000 in
theorem wX12_see {Z : mm_Z} {d n N : Nat} (hd : 3 ≤ d) (hn : n + 1 < 1000000) {v0 : Nat} {v1 : Int32} {v2 : Int32} {v3 : Int32} {c : mm_C} (hs : (fX12_see N v0 v1 v2 v3 c).isSome = true) : mC Z qX12_see d 1 6 [.ref v0, .int v1, .int v2, .int v3] (n, c) (mP 0 ovI n (fX12_see N v0 v1 v2 v3 c)) := by
  refine mC_of gX12_see (by decide +kernel) (Nat.le_of_ble_eq_true rfl) fun X C hRm => ?_
  have hf := hO_mP 0 ovI n hs
  have hk : 0 + 1 ≤ 1 := Nat.le_of_ble_eq_true rfl
  have hw : 0 + 6 ≤ 6 := Nat.le_of_ble_eq_true rfl
  show mG _ _ _ _ _ _ _ _ (0, [(0, .ref v0), (1, .int v1), (2, .int v2), (3, .int v3)], [], (n, c))
  exact wX12_see_0 C hRm hd hn hk hw hf
def bX12_fits_57 (N : Nat)  (k7 : Nat → Int32 → mm_C → mR Int32) (v0 : Nat) (v2 : Int32) (s0 : Int32) (s1 : Int32) (c : mm_C) : mR Int32 :=
  if s0 = s1 then (k7 v0 (v2 + 1) c) else (rZ (0 : Int32) c)
set_option maxRecDepth 100000 in
theorem wX12_fits_57 {Z : mm_Z} {X : mm_T} {k w mc ms d n N : Nat} {Q : mm_O → mm_H → Prop} (C : mm_Ok Z qX12_fits X) (hRm : mt_R X = mm_rm d mc ms) (hd : 7 ≤ d) (hn : n + 1 < 1000000) (hk : k + 1 ≤ mc) (hw : w + 6 ≤ ms) {k7 : Nat → Int32 → mm_C → mR Int32} (hk7 : ∀ (v0 : Nat) (v2 : Int32) (c : mm_C), hO 0 ovI n (k7 v0 v2 c) Q → mG Z qX12_fits X k w mc ms Q (7, [(0, .ref v0), (2, .int v2)], [], (n, c))) {v0 : Nat} {v2 : Int32} {s0 : Int32} {s1 : Int32} {c : mm_C} (hf : hO 0 ovI n (bX12_fits_57 N  k7 v0 v2 s0 s1 c) Q) : mG Z qX12_fits X k w mc ms Q (57, [(0, .ref v0), (2, .int v2)], [.int s1, .int s0], (n, c)) := by
  unfold bX12_fits_57 at hf
  refine mh_icmp_eq C rfl hf (fun e_57 hf => ?_) (fun e_57 hf => ?_)
  · refine mg_iinc (lv' := [(0, .ref v0), (2, .int (v2 + 1))]) C rfl (Nat.le_of_ble_eq_true rfl) rfl (show _ + Int32.ofInt 1 = _ + 1 by congr 1) rfl ?_
    refine mg_goto C rfl ?_
    exact hk7 _ _ _ hf
  · refine mg_iconst (v := 0) C rfl (by decide) ?_
    exact mh_zreturn C rfl (by omega) (by omega) rfl hf
def bX12_fits_42 (N : Nat)  (k7 : Nat → Int32 → mm_C → mR Int32) (v0 : Nat) (v2 : Int32) (s0 : Int32) (c : mm_C) : mR Int32 :=
  Option.bind (gR c v0 12 49) fun x1 => Option.bind (aI c x1 v2) fun x2 => if ¬ x2 = (1 : Int32) then (bX12_fits_57 N  k7 v0 v2 s0 (0 : Int32) c) else (bX12_fits_57 N  k7 v0 v2 s0 (1 : Int32) c)
set_option maxRecDepth 100000 in
theorem wX12_fits_42 {Z : mm_Z} {X : mm_T} {k w mc ms d n N : Nat} {Q : mm_O → mm_H → Prop} (C : mm_Ok Z qX12_fits X) (hRm : mt_R X = mm_rm d mc ms) (hd : 7 ≤ d) (hn : n + 1 < 1000000) (hk : k + 1 ≤ mc) (hw : w + 6 ≤ ms) {k7 : Nat → Int32 → mm_C → mR Int32} (hk7 : ∀ (v0 : Nat) (v2 : Int32) (c : mm_C), hO 0 ovI n (k7 v0 v2 c) Q → mG Z qX12_fits X k w mc ms Q (7, [(0, .ref v0), (2, .int v2)], [], (n, c))) {v0 : Nat} {v2 : Int32} {s0 : Int32} {c : mm_C} (hf : hO 0 ovI n (bX12_fits_42 N  k7 v0 v2 s0 c) Q) : mG Z qX12_fits X k w mc ms Q (42, [(0, .ref v0), (2, .int v2)], [.int s0], (n, c)) := by
  unfold bX12_fits_42 at hf
  refine mg_aload_n C rfl rfl ?_
  refine mh_gR C rfl rfl rfl (by decide) hf (fun x1 hf => ?_)
  refine mg_iload_n C rfl rfl ?_
  refine mh_aI C rfl hf (fun x2 hf => ?_)
  refine mg_iconst (v := 1) C rfl (by decide) ?_
  refine mh_icmp_ne C rfl hf (fun e_49 hf => ?_) (fun e_49 hf => ?_)
  · refine mg_iconst (v := 0) C rfl (by decide) ?_
    exact wX12_fits_57 C hRm hd hn hk hw hk7 hf
  · refine mg_iconst (v := 1) C rfl (by decide) ?_
    refine mg_goto C rfl ?_
    exact wX12_fits_57 C hRm hd hn hk hw hk7 hf
def bX12_fits_7 (N : Nat)  (k7 : Nat → Int32 → mm_C → mR Int32) (v0 : Nat) (v2 : Int32) (c : mm_C) : mR Int32 :=
  Option.bind (gI c v0 12 29) fun x1 => if x1 ≤ v2 then (rZ (1 : Int32) c) else (Option.bind (gR c v0 12 34) fun x2 => Option.bind (gR c v0 12 47) fun x3 => Option.bind (aI c x3 v2) fun x4 => Option.bind (aI c x2 x4) fun x5 => Option.bind (gR c v0 12 48) fun x6 => Option.bind (aI c x6 v2) fun x7 => if (x7 + (1 : Int32)) < x5 then (bX12_fits_42 N  k7 v0 v2 (0 : Int32) c) else (bX12_fits_42 N  k7 v0 v2 (1 : Int32) c))
set_option maxRecDepth 100000 in
theorem wX12_fits_7 {Z : mm_Z} {X : mm_T} {k w mc ms d n N : Nat} {Q : mm_O → mm_H → Prop} (C : mm_Ok Z qX12_fits X) (hRm : mt_R X = mm_rm d mc ms) (hd : 7 ≤ d) (hn : n + 1 < 1000000) (hk : k + 1 ≤ mc) (hw : w + 6 ≤ ms) {k7 : Nat → Int32 → mm_C → mR Int32} (hk7 : ∀ (v0 : Nat) (v2 : Int32) (c : mm_C), hO 0 ovI n (k7 v0 v2 c) Q → mG Z qX12_fits X k w mc ms Q (7, [(0, .ref v0), (2, .int v2)], [], (n, c))) {v0 : Nat} {v2 : Int32} {c : mm_C} (hf : hO 0 ovI n (bX12_fits_7 N  k7 v0 v2 c) Q) : mG Z qX12_fits X k w mc ms Q (7, [(0, .ref v0), (2, .int v2)], [], (n, c)) := by
  unfold bX12_fits_7 at hf
  refine mg_iload_n C rfl rfl ?_
  refine mg_aload_n C rfl rfl ?_
  refine mh_gI C rfl rfl rfl (by decide) hf (fun x1 hf => ?_)
  refine mh_icmp_ge C rfl hf (fun e_12 hf => ?_) (fun e_12 hf => ?_)
  · refine mg_iconst (v := 1) C rfl (by decide) ?_
    exact mh_zreturn C rfl (by omega) (by omega) rfl hf
  · refine mg_aload_n C rfl rfl ?_
    refine mh_gR C rfl rfl rfl (by decide) hf (fun x2 hf => ?_)
    refine mg_aload_n C rfl rfl ?_
    refine mh_gR C rfl rfl rfl (by decide) hf (fun x3 hf => ?_)
    refine mg_iload_n C rfl rfl ?_
    refine mh_aI C rfl hf (fun x4 hf => ?_)
    refine mh_aI C rfl hf (fun x5 hf => ?_)
    refine mg_aload_n C rfl rfl ?_
    refine mh_gR C rfl rfl rfl (by decide) hf (fun x6 hf => ?_)
    refine mg_iload_n C rfl rfl ?_
    refine mh_aI C rfl hf (fun x7 hf => ?_)
    refine mg_iconst (v := 1) C rfl (by decide) ?_
    refine mg_iadd C rfl ?_
    refine mh_icmp_gt C rfl hf (fun e_34 hf => ?_) (fun e_34 hf => ?_)
    · refine mg_iconst (v := 0) C rfl (by decide) ?_
      exact wX12_fits_42 C hRm hd hn hk hw hk7 hf
    · refine mg_iconst (v := 1) C rfl (by decide) ?_
      refine mg_goto C rfl ?_
      exact wX12_fits_42 C hRm hd hn hk hw hk7 hf
def lX12_fits_7 (N : Nat)  : Nat → Nat → Int32 → mm_C → mR Int32
  | 0, _, _, _ => none
  | m + 1, v0, v2, c => bX12_fits_7 N  (lX12_fits_7 N  m) v0 v2 c
theorem WX12_fits_7 {Z : mm_Z} {X : mm_T} {k w mc ms d n N : Nat} {Q : mm_O → mm_H → Prop} (C : mm_Ok Z qX12_fits X) (hRm : mt_R X = mm_rm d mc ms) (hd : 7 ≤ d) (hn : n + 1 < 1000000) (hk : k + 1 ≤ mc) (hw : w + 6 ≤ ms) : ∀ (m : Nat) {v0 : Nat} {v2 : Int32} {c : mm_C} (hf : hO 0 ovI n (lX12_fits_7 N  m v0 v2 c) Q), mG Z qX12_fits X k w mc ms Q (7, [(0, .ref v0), (2, .int v2)], [], (n, c)) := by
  intro m
  induction m with
  | zero => intro v0 v2 c hf; exact absurd hf hO_none
  | succ m ih => intro v0 v2 c hf; exact wX12_fits_7 C hRm hd hn hk hw (fun v0 v2 c hf => ih hf) hf
def bX12_fits_0 (N : Nat)  (v0 : Nat) (v1 : Int32) (c : mm_C) : mR Int32 :=
  cV 12 v0 c (fX12_dayBy N v0 v1 c) fun (_ : Unit) c1 => lX12_fits_7 N  N v0 (0 : Int32) c1
set_option maxRecDepth 100000 in
theorem wX12_fits_0 {Z : mm_Z} {X : mm_T} {k w mc ms d n N : Nat} {Q : mm_O → mm_H → Prop} (C : mm_Ok Z qX12_fits X) (hRm : mt_R X = mm_rm d mc ms) (hd : 7 ≤ d) (hn : n + 1 < 1000000) (hk : k + 1 ≤ mc) (hw : w + 6 ≤ ms) {v0 : Nat} {v1 : Int32} {c : mm_C} (hf : hO 0 ovI n (bX12_fits_0 N  v0 v1 c) Q) : mG Z qX12_fits X k w mc ms Q (0, [(0, .ref v0), (1, .int v1)], [], (n, c)) := by
  unfold bX12_fits_0 at hf
  refine mg_aload_n C rfl rfl ?_
  refine mg_iload_n C rfl rfl ?_
  refine mh_cVU (M' := qX12_dayBy) C rfl rfl aX12_dayBy iX12_dayBy sX12_dayBy hRm (by omega) (by decide) (by omega) (by omega) rfl rfl rfl (Nat.le_of_ble_eq_true rfl) rfl hf (fun hs => wX12_dayBy (by omega) (by omega) hs) (fun c1 hf => ?_)
  refine mg_iconst (v := 0) C rfl (by decide) ?_
  refine mg_istore_n (lv' := [(0, .ref v0), (1, .int v1), (2, .int (0 : Int32))]) C rfl (Nat.le_of_ble_eq_true rfl) rfl ?_
  refine mg_sub (lv' := [(0, .ref v0), (2, .int (0 : Int32))]) (by simp) ?_
  exact WX12_fits_7 C hRm hd hn hk hw N hf
def fX12_fits (N : Nat) (v0 : Nat) (v1 : Int32) (c : mm_C) : mR Int32 := bX12_fits_0 N v0 v1 c
set_option maxRecDepth 100000 in
theorem wX12_fits {Z : mm_Z} {d n N : Nat} (hd : 7 ≤ d) (hn : n + 1 < 1000000) {v0 : Nat} {v1 : Int32} {c : mm_C} (hs : (fX12_fits N v0 v1 c).isSome = true) : mC Z qX12_fits d 1 6 [.ref v0, .int v1] (n, c) (mP 0 ovI n (fX12_fits N v0 v1 c)) := by
  refine mC_of gX12_fits (by decide +kernel) (Nat.le_of_ble_eq_true rfl) fun X C hRm => ?_
  have hf := hO_mP 0 ovI n hs
  have hk : 0 + 1 ≤ 1 := Nat.le_of_ble_eq_true rfl
  have hw : 0 + 6 ≤ 6 := Nat.le_of_ble_eq_true rfl
  show mG _ _ _ _ _ _ _ _ (0, [(0, .ref v0), (1, .int v1)], [], (n, c))
  exact wX12_fits_0 C hRm hd hn hk hw hf
def bX12_which_56 (N : Nat)  (v1 : Int32) (c : mm_C) : mR Int32 :=
  some (.inl v1, c)
set_option maxRecDepth 100000 in
theorem wX12_which_56 {Z : mm_Z} {X : mm_T} {k w mc ms d n N : Nat} {Q : mm_O → mm_H → Prop} (C : mm_Ok Z qX12_which X) (hRm : mt_R X = mm_rm d mc ms) (hd : 8 ≤ d) (hn : n + 1 < 1000000) (hk : k + 1 ≤ mc) (hw : w + 6 ≤ ms) {v1 : Int32} {c : mm_C} (hf : hO 0 ovI n (bX12_which_56 N  v1 c) Q) : mG Z qX12_which X k w mc ms Q (56, [(1, .int v1)], [], (n, c)) := by
  unfold bX12_which_56 at hf
  refine mg_iload_n C rfl rfl ?_
  exact mh_ireturn C rfl (by omega) (by omega) rfl hf
def bX12_which_48 (N : Nat)  (k22 : Nat → Int32 → Int32 → mm_C → mR Int32) (v0 : Nat) (v2 : Int32) (s0 : Int32) (s1 : Int32) (c : mm_C) : mR Int32 :=
  k22 v0 (s0 ||| s1) (v2 + 1) c
set_option maxRecDepth 100000 in
theorem wX12_which_48 {Z : mm_Z} {X : mm_T} {k w mc ms d n N : Nat} {Q : mm_O → mm_H → Prop} (C : mm_Ok Z qX12_which X) (hRm : mt_R X = mm_rm d mc ms) (hd : 8 ≤ d) (hn : n + 1 < 1000000) (hk : k + 1 ≤ mc) (hw : w + 6 ≤ ms) {k22 : Nat → Int32 → Int32 → mm_C → mR Int32} (hk22 : ∀ (v0 : Nat) (v1 : Int32) (v2 : Int32) (c : mm_C), hO 0 ovI n (k22 v0 v1 v2 c) Q → mG Z qX12_which X k w mc ms Q (22, [(0, .ref v0), (1, .int v1), (2, .int v2)], [], (n, c))) {v0 : Nat} {v2 : Int32} {s0 : Int32} {s1 : Int32} {c : mm_C} (hf : hO 0 ovI n (bX12_which_48 N  k22 v0 v2 s0 s1 c) Q) : mG Z qX12_which X k w mc ms Q (48, [(0, .ref v0), (2, .int v2)], [.int s1, .int s0], (n, c)) := by
  unfold bX12_which_48 at hf
  refine mg_ior C rfl ?_
  refine mg_istore_n (lv' := [(0, .ref v0), (1, .int (s0 ||| s1)), (2, .int v2)]) C rfl (Nat.le_of_ble_eq_true rfl) rfl ?_
  refine mg_iinc (lv' := [(0, .ref v0), (1, .int (s0 ||| s1)), (2, .int (v2 + 1))]) C rfl (Nat.le_of_ble_eq_true rfl) rfl (show _ + Int32.ofInt 1 = _ + 1 by congr 1) rfl ?_
  refine mg_goto C rfl ?_
  exact hk22 _ _ _ _ hf
def bX12_which_22 (N : Nat)  (k22 : Nat → Int32 → Int32 → mm_C → mR Int32) (v0 : Nat) (v1 : Int32) (v2 : Int32) (c : mm_C) : mR Int32 :=
  Option.bind (gR c v0 12 3) fun x1 => Option.bind (aI c x1 (4 : Int32)) fun x2 => if x2 ≤ v2 then (bX12_which_56 N  v1 c) else (cV 12 v0 c (fX12_fits N v0 v2 c) fun r3 c4 => if r3 = 0 then (bX12_which_48 N  k22 v0 v2 v1 (0 : Int32) c4) else (bX12_which_48 N  k22 v0 v2 v1 ((1 : Int32) <<< (v2 &&& 31)) c4))
set_option maxRecDepth 100000 in
theorem wX12_which_22 {Z : mm_Z} {X : mm_T} {k w mc ms d n N : Nat} {Q : mm_O → mm_H → Prop} (C : mm_Ok Z qX12_which X) (hRm : mt_R X = mm_rm d mc ms) (hd : 8 ≤ d) (hn : n + 1 < 1000000) (hk : k + 1 ≤ mc) (hw : w + 6 ≤ ms) {k22 : Nat → Int32 → Int32 → mm_C → mR Int32} (hk22 : ∀ (v0 : Nat) (v1 : Int32) (v2 : Int32) (c : mm_C), hO 0 ovI n (k22 v0 v1 v2 c) Q → mG Z qX12_which X k w mc ms Q (22, [(0, .ref v0), (1, .int v1), (2, .int v2)], [], (n, c))) {v0 : Nat} {v1 : Int32} {v2 : Int32} {c : mm_C} (hf : hO 0 ovI n (bX12_which_22 N  k22 v0 v1 v2 c) Q) : mG Z qX12_which X k w mc ms Q (22, [(0, .ref v0), (1, .int v1), (2, .int v2)], [], (n, c)) := by
  unfold bX12_which_22 at hf
  refine mg_iload_n C rfl rfl ?_
  refine mg_aload_n C rfl rfl ?_
  refine mh_gR C rfl rfl rfl (by decide) hf (fun x1 hf => ?_)
  refine mg_iconst (v := 4) C rfl (by decide) ?_
  refine mh_aI C rfl hf (fun x2 hf => ?_)
  refine mh_icmp_ge C rfl hf (fun e_29 hf => ?_) (fun e_29 hf => ?_)
  · refine mg_sub (lv' := [(1, .int v1)]) (by simp) ?_
    exact wX12_which_56 C hRm hd hn hk hw hf
  · refine mg_iload_n C rfl rfl ?_
    refine mg_aload_n C rfl rfl ?_
    refine mg_iload_n C rfl rfl ?_
    refine mh_cVI (M' := qX12_fits) C rfl rfl aX12_fits iX12_fits sX12_fits hRm (by omega) (by decide) (by omega) (by omega) rfl rfl rfl (Nat.le_of_ble_eq_true rfl) rfl hf (fun hs => wX12_fits (by omega) (by omega) hs) (fun r3 c4 hf => ?_)
    refine mh_if_eq C rfl hf (fun e_38 hf => ?_) (fun e_38 hf => ?_)
    · refine mg_iconst (v := 0) C rfl (by decide) ?_
      refine mg_sub (lv' := [(0, .ref v0), (2, .int v2)]) (by simp) ?_
      exact wX12_which_48 C hRm hd hn hk hw hk22 hf
    · refine mg_iconst (v := 1) C rfl (by decide) ?_
      refine mg_iload_n C rfl rfl ?_
      refine mg_ishl C rfl ?_
      refine mg_goto C rfl ?_
      refine mg_sub (lv' := [(0, .ref v0), (2, .int v2)]) (by simp) ?_
      exact wX12_which_48 C hRm hd hn hk hw hk22 hf
def lX12_which_22 (N : Nat)  : Nat → Nat → Int32 → Int32 → mm_C → mR Int32
  | 0, _, _, _, _ => none
  | m + 1, v0, v1, v2, c => bX12_which_22 N  (lX12_which_22 N  m) v0 v1 v2 c
theorem WX12_which_22 {Z : mm_Z} {X : mm_T} {k w mc ms d n N : Nat} {Q : mm_O → mm_H → Prop} (C : mm_Ok Z qX12_which X) (hRm : mt_R X = mm_rm d mc ms) (hd : 8 ≤ d) (hn : n + 1 < 1000000) (hk : k + 1 ≤ mc) (hw : w + 6 ≤ ms) : ∀ (m : Nat) {v0 : Nat} {v1 : Int32} {v2 : Int32} {c : mm_C} (hf : hO 0 ovI n (lX12_which_22 N  m v0 v1 v2 c) Q), mG Z qX12_which X k w mc ms Q (22, [(0, .ref v0), (1, .int v1), (2, .int v2)], [], (n, c)) := by
  intro m
  induction m with
  | zero => intro v0 v1 v2 c hf; exact absurd hf hO_none
  | succ m ih => intro v0 v1 v2 c hf; exact wX12_which_22 C hRm hd hn hk hw (fun v0 v1 v2 c hf => ih hf) hf
def bX12_which_19 (N : Nat)  (v0 : Nat) (s0 : Int32) (c : mm_C) : mR Int32 :=
  lX12_which_22 N  N v0 s0 (0 : Int32) c
set_option maxRecDepth 100000 in
theorem wX12_which_19 {Z : mm_Z} {X : mm_T} {k w mc ms d n N : Nat} {Q : mm_O → mm_H → Prop} (C : mm_Ok Z qX12_which X) (hRm : mt_R X = mm_rm d mc ms) (hd : 8 ≤ d) (hn : n + 1 < 1000000) (hk : k + 1 ≤ mc) (hw : w + 6 ≤ ms) {v0 : Nat} {s0 : Int32} {c : mm_C} (hf : hO 0 ovI n (bX12_which_19 N  v0 s0 c) Q) : mG Z qX12_which X k w mc ms Q (19, [(0, .ref v0)], [.int s0], (n, c)) := by
  unfold bX12_which_19 at hf
  refine mg_istore_n (lv' := [(0, .ref v0), (1, .int s0)]) C rfl (Nat.le_of_ble_eq_true rfl) rfl ?_
  refine mg_iconst (v := 0) C rfl (by decide) ?_
  refine mg_istore_n (lv' := [(0, .ref v0), (1, .int s0), (2, .int (0 : Int32))]) C rfl (Nat.le_of_ble_eq_true rfl) rfl ?_
  exact WX12_which_22 C hRm hd hn hk hw N hf
def bX12_which_0 (N : Nat)  (v0 : Nat) (c : mm_C) : mR Int32 :=
  Option.bind (pI c v0 12 2 (0 : Int32)) fun c1 => cV 12 v0 c1 (fX12_fits N v0 (-1 : Int32) c1) fun r2 c3 => if r2 = 0 then (bX12_which_19 N  v0 (0 : Int32) c3) else (bX12_which_19 N  v0 (16 : Int32) c3)
set_option maxRecDepth 100000 in
theorem wX12_which_0 {Z : mm_Z} {X : mm_T} {k w mc ms d n N : Nat} {Q : mm_O → mm_H → Prop} (C : mm_Ok Z qX12_which X) (hRm : mt_R X = mm_rm d mc ms) (hd : 8 ≤ d) (hn : n + 1 < 1000000) (hk : k + 1 ≤ mc) (hw : w + 6 ≤ ms) {v0 : Nat} {c : mm_C} (hf : hO 0 ovI n (bX12_which_0 N  v0 c) Q) : mG Z qX12_which X k w mc ms Q (0, [(0, .ref v0)], [], (n, c)) := by
  unfold bX12_which_0 at hf
  refine mg_aload_n C rfl rfl ?_
  refine mg_iconst (v := 0) C rfl (by decide) ?_
  refine mh_pI C rfl rfl rfl (by decide) rfl rfl rfl hf (fun c1 hf => ?_)
  refine mg_aload_n C rfl rfl ?_
  refine mg_iconst (v := (-1)) C rfl (by decide) ?_
  refine mh_cVI (M' := qX12_fits) C rfl rfl aX12_fits iX12_fits sX12_fits hRm (by omega) (by decide) (by omega) (by omega) rfl rfl rfl (Nat.le_of_ble_eq_true rfl) rfl hf (fun hs => wX12_fits (by omega) (by omega) hs) (fun r2 c3 hf => ?_)
  refine mh_if_eq C rfl hf (fun e_10 hf => ?_) (fun e_10 hf => ?_)
  · refine mg_iconst (v := 0) C rfl (by decide) ?_
    exact wX12_which_19 C hRm hd hn hk hw hf
  · refine mg_bipush (v := 16) C rfl (by decide) ?_
    refine mg_goto C rfl ?_
    exact wX12_which_19 C hRm hd hn hk hw hf
def fX12_which (N : Nat) (v0 : Nat) (c : mm_C) : mR Int32 := bX12_which_0 N v0 c
set_option maxRecDepth 100000 in
theorem wX12_which {Z : mm_Z} {d n N : Nat} (hd : 8 ≤ d) (hn : n + 1 < 1000000) {v0 : Nat} {c : mm_C} (hs : (fX12_which N v0 c).isSome = true) : mC Z qX12_which d 1 6 [.ref v0] (n, c) (mP 0 ovI n (fX12_which N v0 c)) := by
  refine mC_of gX12_which (by decide +kernel) (Nat.le_of_ble_eq_true rfl) fun X C hRm => ?_
  have hf := hO_mP 0 ovI n hs
  have hk : 0 + 1 ≤ 1 := Nat.le_of_ble_eq_true rfl
  have hw : 0 + 6 ≤ 6 := Nat.le_of_ble_eq_true rfl
  show mG _ _ _ _ _ _ _ _ (0, [(0, .ref v0)], [], (n, c))
  exact wX12_which_0 C hRm hd hn hk hw hf
def bX12_forget_0 (N : Nat)  (v0 : Nat) (c : mm_C) : mR Unit :=
  Option.bind (pI c v0 12 2 (0 : Int32)) fun c1 => Option.bind (pI c1 v0 12 29 (0 : Int32)) fun c2 => some (.inl (), c2)
set_option maxRecDepth 100000 in
theorem wX12_forget_0 {Z : mm_Z} {X : mm_T} {k w mc ms d n N : Nat} {Q : mm_O → mm_H → Prop} (C : mm_Ok Z qX12_forget X) (hRm : mt_R X = mm_rm d mc ms) (hd : 1 ≤ d) (hn : n + 1 < 1000000) (hk : k + 1 ≤ mc) (hw : w + 6 ≤ ms) {v0 : Nat} {c : mm_C} (hf : hO 0 ovU n (bX12_forget_0 N  v0 c) Q) : mG Z qX12_forget X k w mc ms Q (0, [(0, .ref v0)], [], (n, c)) := by
  unfold bX12_forget_0 at hf
  refine mg_aload_n C rfl rfl ?_
  refine mg_iconst (v := 0) C rfl (by decide) ?_
  refine mh_pI C rfl rfl rfl (by decide) rfl rfl rfl hf (fun c1 hf => ?_)
  refine mg_aload_n C rfl rfl ?_
  refine mg_iconst (v := 0) C rfl (by decide) ?_
  refine mh_pI C rfl rfl rfl (by decide) rfl rfl rfl hf (fun c2 hf => ?_)
  exact mh_return C rfl (by omega) (by omega) rfl hf
def fX12_forget (N : Nat) (v0 : Nat) (c : mm_C) : mR Unit := bX12_forget_0 N v0 c
set_option maxRecDepth 100000 in
theorem wX12_forget {Z : mm_Z} {d n N : Nat} (hd : 1 ≤ d) (hn : n + 1 < 1000000) {v0 : Nat} {c : mm_C} (hs : (fX12_forget N v0 c).isSome = true) : mC Z qX12_forget d 1 6 [.ref v0] (n, c) (mP 0 ovU n (fX12_forget N v0 c)) := by
  refine mC_of gX12_forget (by decide +kernel) (Nat.le_of_ble_eq_true rfl) fun X C hRm => ?_
  have hf := hO_mP 0 ovU n hs
  have hk : 0 + 1 ≤ 1 := Nat.le_of_ble_eq_true rfl
  have hw : 0 + 6 ≤ 6 := Nat.le_of_ble_eq_true rfl
  show mG _ _ _ _ _ _ _ _ (0, [(0, .ref v0)], [], (n, c))
  exact wX12_forget_0 C hRm hd hn hk hw hf
def bX12_drawOf_0 (N : Nat)  (v0 : Nat) (v1 : Int32) (c : mm_C) : mR Int32 :=
  Option.bind (gI c v0 12 50) fun x1 => Option.bind (pI c v0 12 50 ((x1 * (1103515245 : Int32)) + (12345 : Int32))) fun c2 => Option.bind (gI c2 v0 12 50) fun x3 => Option.bind (rmI ((x3 >>> ((16 : Int32) &&& 31)) &&& (32767 : Int32)) v1) fun x4 => some (.inl x4, c2)
set_option maxRecDepth 100000 in
theorem wX12_drawOf_0 {Z : mm_Z} {X : mm_T} {k w mc ms d n N : Nat} {Q : mm_O → mm_H → Prop} (C : mm_Ok Z qX12_drawOf X) (hRm : mt_R X = mm_rm d mc ms) (hd : 1 ≤ d) (hn : n + 1 < 1000000) (hk : k + 1 ≤ mc) (hw : w + 6 ≤ ms) {v0 : Nat} {v1 : Int32} {c : mm_C} (hf : hO 0 ovI n (bX12_drawOf_0 N  v0 v1 c) Q) : mG Z qX12_drawOf X k w mc ms Q (0, [(0, .ref v0), (1, .int v1)], [], (n, c)) := by
  unfold bX12_drawOf_0 at hf
  refine mg_aload_n C rfl rfl ?_
  refine mg_aload_n C rfl rfl ?_
  refine mh_gI C rfl rfl rfl (by decide) hf (fun x1 hf => ?_)
  refine mg_ldc_w C rfl rfl ?_
  refine mg_imul C rfl ?_
  refine mg_sipush (v := 12345) C rfl (by decide) ?_
  refine mg_iadd C rfl ?_
  refine mh_pI C rfl rfl rfl (by decide) rfl rfl rfl hf (fun c2 hf => ?_)
  refine mg_aload_n C rfl rfl ?_
  refine mh_gI C rfl rfl rfl (by decide) hf (fun x3 hf => ?_)
  refine mg_bipush (v := 16) C rfl (by decide) ?_
  refine mg_ishr C rfl ?_
  refine mg_sipush (v := 32767) C rfl (by decide) ?_
  refine mg_iand C rfl ?_
  refine mg_iload_n C rfl rfl ?_
  refine mh_irem C rfl hf (fun x4 hf => ?_)
  exact mh_ireturn C rfl (by omega) (by omega) rfl hf
def fX12_drawOf (N : Nat) (v0 : Nat) (v1 : Int32) (c : mm_C) : mR Int32 := bX12_drawOf_0 N v0 v1 c
set_option maxRecDepth 100000 in
theorem wX12_drawOf {Z : mm_Z} {d n N : Nat} (hd : 1 ≤ d) (hn : n + 1 < 1000000) {v0 : Nat} {v1 : Int32} {c : mm_C} (hs : (fX12_drawOf N v0 v1 c).isSome = true) : mC Z qX12_drawOf d 1 6 [.ref v0, .int v1] (n, c) (mP 0 ovI n (fX12_drawOf N v0 v1 c)) := by
  refine mC_of gX12_drawOf (by decide +kernel) (Nat.le_of_ble_eq_true rfl) fun X C hRm => ?_
  have hf := hO_mP 0 ovI n hs
  have hk : 0 + 1 ≤ 1 := Nat.le_of_ble_eq_true rfl
  have hw : 0 + 6 ≤ 6 := Nat.le_of_ble_eq_true rfl
  show mG _ _ _ _ _ _ _ _ (0, [(0, .ref v0), (1, .int v1)], [], (n, c))
  exact wX12_drawOf_0 C hRm hd hn hk hw hf
def bX12_drawSky_72 (N : Nat)  (k72 : Nat → Int32 → mm_C → mR Unit) (v0 : Nat) (v2 : Int32) (c : mm_C) : mR Unit :=
  if (480 : Int32) ≤ v2 then (some (.inl (), c)) else (Option.bind (gR c v0 12 10) fun x1 => Option.bind (tI c x1 v2 (0 : Int32)) fun c2 => k72 v0 (v2 + 1) c2)
set_option maxRecDepth 100000 in
theorem wX12_drawSky_72 {Z : mm_Z} {X : mm_T} {k w mc ms d n N : Nat} {Q : mm_O → mm_H → Prop} (C : mm_Ok Z qX12_drawSky X) (hRm : mt_R X = mm_rm d mc ms) (hd : 2 ≤ d) (hn : n + 1 < 1000000) (hk : k + 1 ≤ mc) (hw : w + 6 ≤ ms) {k72 : Nat → Int32 → mm_C → mR Unit} (hk72 : ∀ (v0 : Nat) (v2 : Int32) (c : mm_C), hO 0 ovU n (k72 v0 v2 c) Q → mG Z qX12_drawSky X k w mc ms Q (72, [(0, .ref v0), (2, .int v2)], [], (n, c))) {v0 : Nat} {v2 : Int32} {c : mm_C} (hf : hO 0 ovU n (bX12_drawSky_72 N  k72 v0 v2 c) Q) : mG Z qX12_drawSky X k w mc ms Q (72, [(0, .ref v0), (2, .int v2)], [], (n, c)) := by
  unfold bX12_drawSky_72 at hf
  refine mg_iload_n C rfl rfl ?_
  refine mg_sipush (v := 480) C rfl (by decide) ?_
  refine mh_icmp_ge C rfl hf (fun e_76 hf => ?_) (fun e_76 hf => ?_)
  · exact mh_return C rfl (by omega) (by omega) rfl hf
  · refine mg_aload_n C rfl rfl ?_
    refine mh_gR C rfl rfl rfl (by decide) hf (fun x1 hf => ?_)
    refine mg_iload_n C rfl rfl ?_
    refine mg_iconst (v := 0) C rfl (by decide) ?_
    refine mh_tI C rfl hf (fun c2 hf => ?_)
    refine mg_iinc (lv' := [(0, .ref v0), (2, .int (v2 + 1))]) C rfl (Nat.le_of_ble_eq_true rfl) rfl (show _ + Int32.ofInt 1 = _ + 1 by congr 1) rfl ?_
    refine mg_goto C rfl ?_
    exact hk72 _ _ _ hf
def lX12_drawSky_72 (N : Nat)  : Nat → Nat → Int32 → mm_C → mR Unit
  | 0, _, _, _ => none
  | m + 1, v0, v2, c => bX12_drawSky_72 N  (lX12_drawSky_72 N  m) v0 v2 c
theorem WX12_drawSky_72 {Z : mm_Z} {X : mm_T} {k w mc ms d n N : Nat} {Q : mm_O → mm_H → Prop} (C : mm_Ok Z qX12_drawSky X) (hRm : mt_R X = mm_rm d mc ms) (hd : 2 ≤ d) (hn : n + 1 < 1000000) (hk : k + 1 ≤ mc) (hw : w + 6 ≤ ms) : ∀ (m : Nat) {v0 : Nat} {v2 : Int32} {c : mm_C} (hf : hO 0 ovU n (lX12_drawSky_72 N  m v0 v2 c) Q), mG Z qX12_drawSky X k w mc ms Q (72, [(0, .ref v0), (2, .int v2)], [], (n, c)) := by
  intro m
  induction m with
  | zero => intro v0 v2 c hf; exact absurd hf hO_none
  | succ m ih => intro v0 v2 c hf; exact wX12_drawSky_72 C hRm hd hn hk hw (fun v0 v2 c hf => ih hf) hf
def bX12_drawSky_66 (N : Nat)  (k16 : Nat → Int32 → Int32 → Int32 → mm_C → mR Unit) (v0 : Nat) (v1 : Int32) (v2 : Int32) (v3 : Int32) (c : mm_C) : mR Unit :=
  k16 v0 v1 v2 (v3 + 1) c
set_option maxRecDepth 100000 in
theorem wX12_drawSky_66 {Z : mm_Z} {X : mm_T} {k w mc ms d n N : Nat} {Q : mm_O → mm_H → Prop} (C : mm_Ok Z qX12_drawSky X) (hRm : mt_R X = mm_rm d mc ms) (hd : 2 ≤ d) (hn : n + 1 < 1000000) (hk : k + 1 ≤ mc) (hw : w + 6 ≤ ms) {k16 : Nat → Int32 → Int32 → Int32 → mm_C → mR Unit} (hk16 : ∀ (v0 : Nat) (v1 : Int32) (v2 : Int32) (v3 : Int32) (c : mm_C), hO 0 ovU n (k16 v0 v1 v2 v3 c) Q → mG Z qX12_drawSky X k w mc ms Q (16, [(0, .ref v0), (1, .int v1), (2, .int v2), (3, .int v3)], [], (n, c))) {v0 : Nat} {v1 : Int32} {v2 : Int32} {v3 : Int32} {c : mm_C} (hf : hO 0 ovU n (bX12_drawSky_66 N  k16 v0 v1 v2 v3 c) Q) : mG Z qX12_drawSky X k w mc ms Q (66, [(0, .ref v0), (1, .int v1), (2, .int v2), (3, .int v3)], [], (n, c)) := by
  unfold bX12_drawSky_66 at hf
  refine mg_iinc (lv' := [(0, .ref v0), (1, .int v1), (2, .int v2), (3, .int (v3 + 1))]) C rfl (Nat.le_of_ble_eq_true rfl) rfl (show _ + Int32.ofInt 1 = _ + 1 by congr 1) rfl ?_
  refine mg_goto C rfl ?_
  exact hk16 _ _ _ _ _ hf
def bX12_drawSky_34 (N : Nat)  (k16 : Nat → Int32 → Int32 → Int32 → mm_C → mR Unit) (k34 : Nat → Int32 → Int32 → Int32 → Int32 → Int32 → mm_C → mR Unit) (v0 : Nat) (v1 : Int32) (v2 : Int32) (v3 : Int32) (v4 : Int32) (v5 : Int32) (c : mm_C) : mR Unit :=
  if v4 ≤ v5 then (bX12_drawSky_66 N  k16 v0 v1 v2 v3 c) else (if (480 : Int32) ≤ v2 then (bX12_drawSky_66 N  k16 v0 v1 v2 v3 c) else (Option.bind (gR c v0 12 10) fun x1 => Option.bind (rmI v3 (2 : Int32)) fun x2 => Option.bind (tI c x1 v2 x2) fun c3 => k34 v0 v1 (v2 + 1) v3 v4 (v5 + 1) c3))
set_option maxRecDepth 100000 in
theorem wX12_drawSky_34 {Z : mm_Z} {X : mm_T} {k w mc ms d n N : Nat} {Q : mm_O → mm_H → Prop} (C : mm_Ok Z qX12_drawSky X) (hRm : mt_R X = mm_rm d mc ms) (hd : 2 ≤ d) (hn : n + 1 < 1000000) (hk : k + 1 ≤ mc) (hw : w + 6 ≤ ms) {k16 : Nat → Int32 → Int32 → Int32 → mm_C → mR Unit} (hk16 : ∀ (v0 : Nat) (v1 : Int32) (v2 : Int32) (v3 : Int32) (c : mm_C), hO 0 ovU n (k16 v0 v1 v2 v3 c) Q → mG Z qX12_drawSky X k w mc ms Q (16, [(0, .ref v0), (1, .int v1), (2, .int v2), (3, .int v3)], [], (n, c))) {k34 : Nat → Int32 → Int32 → Int32 → Int32 → Int32 → mm_C → mR Unit} (hk34 : ∀ (v0 : Nat) (v1 : Int32) (v2 : Int32) (v3 : Int32) (v4 : Int32) (v5 : Int32) (c : mm_C), hO 0 ovU n (k34 v0 v1 v2 v3 v4 v5 c) Q → mG Z qX12_drawSky X k w mc ms Q (34, [(0, .ref v0), (1, .int v1), (2, .int v2), (3, .int v3), (4, .int v4), (5, .int v5)], [], (n, c))) {v0 : Nat} {v1 : Int32} {v2 : Int32} {v3 : Int32} {v4 : Int32} {v5 : Int32} {c : mm_C} (hf : hO 0 ovU n (bX12_drawSky_34 N  k16 k34 v0 v1 v2 v3 v4 v5 c) Q) : mG Z qX12_drawSky X k w mc ms Q (34, [(0, .ref v0), (1, .int v1), (2, .int v2), (3, .int v3), (4, .int v4), (5, .int v5)], [], (n, c)) := by
  unfold bX12_drawSky_34 at hf
  refine mg_iload C rfl rfl ?_
  refine mg_iload C rfl rfl ?_
  refine mh_icmp_ge C rfl hf (fun e_38 hf => ?_) (fun e_38 hf => ?_)
  · refine mg_sub (lv' := [(0, .ref v0), (1, .int v1), (2, .int v2), (3, .int v3)]) (by simp) ?_
    exact wX12_drawSky_66 C hRm hd hn hk hw hk16 hf
  · refine mg_iload_n C rfl rfl ?_
    refine mg_sipush (v := 480) C rfl (by decide) ?_
    refine mh_icmp_ge C rfl hf (fun e_45 hf => ?_) (fun e_45 hf => ?_)
    · refine mg_sub (lv' := [(0, .ref v0), (1, .int v1), (2, .int v2), (3, .int v3)]) (by simp) ?_
      exact wX12_drawSky_66 C hRm hd hn hk hw hk16 hf
    · refine mg_aload_n C rfl rfl ?_
      refine mh_gR C rfl rfl rfl (by decide) hf (fun x1 hf => ?_)
      refine mg_iload_n C rfl rfl ?_
      refine mg_iload_n C rfl rfl ?_
      refine mg_iconst (v := 2) C rfl (by decide) ?_
      refine mh_irem C rfl hf (fun x2 hf => ?_)
      refine mh_tI C rfl hf (fun c3 hf => ?_)
      refine mg_iinc (lv' := [(0, .ref v0), (1, .int v1), (2, .int (v2 + 1)), (3, .int v3), (4, .int v4), (5, .int v5)]) C rfl (Nat.le_of_ble_eq_true rfl) rfl (show _ + Int32.ofInt 1 = _ + 1 by congr 1) rfl ?_
      refine mg_iinc (lv' := [(0, .ref v0), (1, .int v1), (2, .int (v2 + 1)), (3, .int v3), (4, .int v4), (5, .int (v5 + 1))]) C rfl (Nat.le_of_ble_eq_true rfl) rfl (show _ + Int32.ofInt 1 = _ + 1 by congr 1) rfl ?_
      refine mg_goto C rfl ?_
      exact hk34 _ _ _ _ _ _ _ hf
def lX12_drawSky_34 (N : Nat)  (k16 : Nat → Int32 → Int32 → Int32 → mm_C → mR Unit) : Nat → Nat → Int32 → Int32 → Int32 → Int32 → Int32 → mm_C → mR Unit
  | 0, _, _, _, _, _, _, _ => none
  | m + 1, v0, v1, v2, v3, v4, v5, c => bX12_drawSky_34 N  k16 (lX12_drawSky_34 N  k16 m) v0 v1 v2 v3 v4 v5 c
theorem WX12_drawSky_34 {Z : mm_Z} {X : mm_T} {k w mc ms d n N : Nat} {Q : mm_O → mm_H → Prop} (C : mm_Ok Z qX12_drawSky X) (hRm : mt_R X = mm_rm d mc ms) (hd : 2 ≤ d) (hn : n + 1 < 1000000) (hk : k + 1 ≤ mc) (hw : w + 6 ≤ ms) {k16 : Nat → Int32 → Int32 → Int32 → mm_C → mR Unit} (hk16 : ∀ (v0 : Nat) (v1 : Int32) (v2 : Int32) (v3 : Int32) (c : mm_C), hO 0 ovU n (k16 v0 v1 v2 v3 c) Q → mG Z qX12_drawSky X k w mc ms Q (16, [(0, .ref v0), (1, .int v1), (2, .int v2), (3, .int v3)], [], (n, c))) : ∀ (m : Nat) {v0 : Nat} {v1 : Int32} {v2 : Int32} {v3 : Int32} {v4 : Int32} {v5 : Int32} {c : mm_C} (hf : hO 0 ovU n (lX12_drawSky_34 N  k16 m v0 v1 v2 v3 v4 v5 c) Q), mG Z qX12_drawSky X k w mc ms Q (34, [(0, .ref v0), (1, .int v1), (2, .int v2), (3, .int v3), (4, .int v4), (5, .int v5)], [], (n, c)) := by
  intro m
  induction m with
  | zero => intro v0 v1 v2 v3 v4 v5 c hf; exact absurd hf hO_none
  | succ m ih => intro v0 v1 v2 v3 v4 v5 c hf; exact wX12_drawSky_34 C hRm hd hn hk hw hk16 (fun v0 v1 v2 v3 v4 v5 c hf => ih hf) hf
def bX12_drawSky_16 (N : Nat)  (k16 : Nat → Int32 → Int32 → Int32 → mm_C → mR Unit) (v0 : Nat) (v1 : Int32) (v2 : Int32) (v3 : Int32) (c : mm_C) : mR Unit :=
  if v1 ≤ v3 then (lX12_drawSky_72 N  N v0 v2 c) else (cV 12 v0 c (fX12_drawOf N v0 (30 : Int32) c) fun r1 c2 => lX12_drawSky_34 N  k16 N v0 v1 v2 v3 (r1 + (1 : Int32)) (0 : Int32) c2)
set_option maxRecDepth 100000 in
theorem wX12_drawSky_16 {Z : mm_Z} {X : mm_T} {k w mc ms d n N : Nat} {Q : mm_O → mm_H → Prop} (C : mm_Ok Z qX12_drawSky X) (hRm : mt_R X = mm_rm d mc ms) (hd : 2 ≤ d) (hn : n + 1 < 1000000) (hk : k + 1 ≤ mc) (hw : w + 6 ≤ ms) {k16 : Nat → Int32 → Int32 → Int32 → mm_C → mR Unit} (hk16 : ∀ (v0 : Nat) (v1 : Int32) (v2 : Int32) (v3 : Int32) (c : mm_C), hO 0 ovU n (k16 v0 v1 v2 v3 c) Q → mG Z qX12_drawSky X k w mc ms Q (16, [(0, .ref v0), (1, .int v1), (2, .int v2), (3, .int v3)], [], (n, c))) {v0 : Nat} {v1 : Int32} {v2 : Int32} {v3 : Int32} {c : mm_C} (hf : hO 0 ovU n (bX12_drawSky_16 N  k16 v0 v1 v2 v3 c) Q) : mG Z qX12_drawSky X k w mc ms Q (16, [(0, .ref v0), (1, .int v1), (2, .int v2), (3, .int v3)], [], (n, c)) := by
  unfold bX12_drawSky_16 at hf
  refine mg_iload_n C rfl rfl ?_
  refine mg_iload_n C rfl rfl ?_
  refine mh_icmp_ge C rfl hf (fun e_18 hf => ?_) (fun e_18 hf => ?_)
  · refine mg_sub (lv' := [(0, .ref v0), (2, .int v2)]) (by simp) ?_
    exact WX12_drawSky_72 C hRm hd hn hk hw N hf
  · refine mg_aload_n C rfl rfl ?_
    refine mg_bipush (v := 30) C rfl (by decide) ?_
    refine mh_cVI (M' := qX12_drawOf) C rfl rfl aX12_drawOf iX12_drawOf sX12_drawOf hRm (by omega) (by decide) (by omega) (by omega) rfl rfl rfl (Nat.le_of_ble_eq_true rfl) rfl hf (fun hs => wX12_drawOf (by omega) (by omega) hs) (fun r1 c2 hf => ?_)
    refine mg_iconst (v := 1) C rfl (by decide) ?_
    refine mg_iadd C rfl ?_
    refine mg_istore (lv' := [(0, .ref v0), (1, .int v1), (2, .int v2), (3, .int v3), (4, .int (r1 + (1 : Int32)))]) C rfl (Nat.le_of_ble_eq_true rfl) rfl ?_
    refine mg_iconst (v := 0) C rfl (by decide) ?_
    refine mg_istore (lv' := [(0, .ref v0), (1, .int v1), (2, .int v2), (3, .int v3), (4, .int (r1 + (1 : Int32))), (5, .int (0 : Int32))]) C rfl (Nat.le_of_ble_eq_true rfl) rfl ?_
    exact WX12_drawSky_34 C hRm hd hn hk hw hk16 N hf
def lX12_drawSky_16 (N : Nat)  : Nat → Nat → Int32 → Int32 → Int32 → mm_C → mR Unit
  | 0, _, _, _, _, _ => none
  | m + 1, v0, v1, v2, v3, c => bX12_drawSky_16 N  (lX12_drawSky_16 N  m) v0 v1 v2 v3 c
theorem WX12_drawSky_16 {Z : mm_Z} {X : mm_T} {k w mc ms d n N : Nat} {Q : mm_O → mm_H → Prop} (C : mm_Ok Z qX12_drawSky X) (hRm : mt_R X = mm_rm d mc ms) (hd : 2 ≤ d) (hn : n + 1 < 1000000) (hk : k + 1 ≤ mc) (hw : w + 6 ≤ ms) : ∀ (m : Nat) {v0 : Nat} {v1 : Int32} {v2 : Int32} {v3 : Int32} {c : mm_C} (hf : hO 0 ovU n (lX12_drawSky_16 N  m v0 v1 v2 v3 c) Q), mG Z qX12_drawSky X k w mc ms Q (16, [(0, .ref v0), (1, .int v1), (2, .int v2), (3, .int v3)], [], (n, c)) := by
  intro m
  induction m with
  | zero => intro v0 v1 v2 v3 c hf; exact absurd hf hO_none
  | succ m ih => intro v0 v1 v2 v3 c hf; exact wX12_drawSky_16 C hRm hd hn hk hw (fun v0 v1 v2 v3 c hf => ih hf) hf
def bX12_drawSky_0 (N : Nat)  (v0 : Nat) (c : mm_C) : mR Unit :=
  cV 12 v0 c (fX12_drawOf N v0 (16 : Int32) c) fun r1 c2 => Option.bind (gR c2 v0 12 26) fun x3 => Option.bind (aI c2 x3 (0 : Int32)) fun x4 => lX12_drawSky_16 N  N v0 r1 x4 (0 : Int32) c2
set_option maxRecDepth 100000 in
theorem wX12_drawSky_0 {Z : mm_Z} {X : mm_T} {k w mc ms d n N : Nat} {Q : mm_O → mm_H → Prop} (C : mm_Ok Z qX12_drawSky X) (hRm : mt_R X = mm_rm d mc ms) (hd : 2 ≤ d) (hn : n + 1 < 1000000) (hk : k + 1 ≤ mc) (hw : w + 6 ≤ ms) {v0 : Nat} {c : mm_C} (hf : hO 0 ovU n (bX12_drawSky_0 N  v0 c) Q) : mG Z qX12_drawSky X k w mc ms Q (0, [(0, .ref v0)], [], (n, c)) := by
  unfold bX12_drawSky_0 at hf
  refine mg_aload_n C rfl rfl ?_
  refine mg_bipush (v := 16) C rfl (by decide) ?_
  refine mh_cVI (M' := qX12_drawOf) C rfl rfl aX12_drawOf iX12_drawOf sX12_drawOf hRm (by omega) (by decide) (by omega) (by omega) rfl rfl rfl (Nat.le_of_ble_eq_true rfl) rfl hf (fun hs => wX12_drawOf (by omega) (by omega) hs) (fun r1 c2 hf => ?_)
  refine mg_istore_n (lv' := [(0, .ref v0), (1, .int r1)]) C rfl (Nat.le_of_ble_eq_true rfl) rfl ?_
  refine mg_aload_n C rfl rfl ?_
  refine mh_gR C rfl rfl rfl (by decide) hf (fun x3 hf => ?_)
  refine mg_iconst (v := 0) C rfl (by decide) ?_
  refine mh_aI C rfl hf (fun x4 hf => ?_)
  refine mg_istore_n (lv' := [(0, .ref v0), (1, .int r1), (2, .int x4)]) C rfl (Nat.le_of_ble_eq_true rfl) rfl ?_
  refine mg_iconst (v := 0) C rfl (by decide) ?_
  refine mg_istore_n (lv' := [(0, .ref v0), (1, .int r1), (2, .int x4), (3, .int (0 : Int32))]) C rfl (Nat.le_of_ble_eq_true rfl) rfl ?_
  exact WX12_drawSky_16 C hRm hd hn hk hw N hf
def fX12_drawSky (N : Nat) (v0 : Nat) (c : mm_C) : mR Unit := bX12_drawSky_0 N v0 c
set_option maxRecDepth 100000 in
theorem wX12_drawSky {Z : mm_Z} {d n N : Nat} (hd : 2 ≤ d) (hn : n + 1 < 1000000) {v0 : Nat} {c : mm_C} (hs : (fX12_drawSky N v0 c).isSome = true) : mC Z qX12_drawSky d 1 6 [.ref v0] (n, c) (mP 0 ovU n (fX12_drawSky N v0 c)) := by
  refine mC_of gX12_drawSky (by decide +kernel) (Nat.le_of_ble_eq_true rfl) fun X C hRm => ?_
  have hf := hO_mP 0 ovU n hs
  have hk : 0 + 1 ≤ 1 := Nat.le_of_ble_eq_true rfl
  have hw : 0 + 6 ≤ 6 := Nat.le_of_ble_eq_true rfl
  show mG _ _ _ _ _ _ _ _ (0, [(0, .ref v0)], [], (n, c))
  exact wX12_drawSky_0 C hRm hd hn hk hw hf
def bX12_week_141 (N : Nat)  (v0 : Nat) (v4 : Int32) (v5 : Int32) (v6 : Int32) (v7 : Int32) (c : mm_C) : mR Int32 :=
  Option.bind (gR c v0 12 51) fun x1 => cV 12 v0 c (fX12_unpack N v0 x1 (0 : Int32) c) fun (_ : Unit) c2 => if ¬ v4 = 0 then (if ¬ v4 = (1 : Int32) then (some (.inl v7, c2)) else (some (.inl v6, c2))) else (some (.inl v5, c2))
set_option maxRecDepth 100000 in
theorem wX12_week_141 {Z : mm_Z} {X : mm_T} {k w mc ms d n N : Nat} {Q : mm_O → mm_H → Prop} (C : mm_Ok Z qX12_week X) (hRm : mt_R X = mm_rm d mc ms) (hd : 7 ≤ d) (hn : n + 1 < 1000000) (hk : k + 1 ≤ mc) (hw : w + 6 ≤ ms) {v0 : Nat} {v4 : Int32} {v5 : Int32} {v6 : Int32} {v7 : Int32} {c : mm_C} (hf : hO 0 ovI n (bX12_week_141 N  v0 v4 v5 v6 v7 c) Q) : mG Z qX12_week X k w mc ms Q (141, [(0, .ref v0), (4, .int v4), (5, .int v5), (6, .int v6), (7, .int v7)], [], (n, c)) := by
  unfold bX12_week_141 at hf
  refine mg_aload_n C rfl rfl ?_
  refine mg_aload_n C rfl rfl ?_
  refine mh_gR C rfl rfl rfl (by decide) hf (fun x1 hf => ?_)
  refine mg_iconst (v := 0) C rfl (by decide) ?_
  refine mh_cVU (M' := qX12_unpack) C rfl rfl aX12_unpack iX12_unpack sX12_unpack hRm (by omega) (by decide) (by omega) (by omega) rfl rfl rfl (Nat.le_of_ble_eq_true rfl) rfl hf (fun hs => wX12_unpack (by omega) (by omega) hs) (fun c2 hf => ?_)
  refine mg_iload C rfl rfl ?_
  refine mh_if_ne C rfl hf (fun e_152 hf => ?_) (fun e_152 hf => ?_)
  · refine mg_iload C rfl rfl ?_
    refine mg_iconst (v := 1) C rfl (by decide) ?_
    refine mh_icmp_ne C rfl hf (fun e_163 hf => ?_) (fun e_163 hf => ?_)
    · refine mg_iload C rfl rfl ?_
      exact mh_ireturn C rfl (by omega) (by omega) rfl hf
    · refine mg_iload C rfl rfl ?_
      refine mg_goto C rfl ?_
      exact mh_ireturn C rfl (by omega) (by omega) rfl hf
  · refine mg_iload C rfl rfl ?_
    refine mg_goto C rfl ?_
    exact mh_ireturn C rfl (by omega) (by omega) rfl hf
def bX12_week_133 (N : Nat)  (k76 : Nat → Int32 → Int32 → Int32 → Int32 → Int32 → Int32 → Int32 → mm_C → mR Int32) (v0 : Nat) (v1 : Int32) (v3 : Int32) (v4 : Int32) (v5 : Int32) (v7 : Int32) (v8 : Int32) (s0 : Int32) (c : mm_C) : mR Int32 :=
  k76 v0 v1 v3 v4 v5 s0 v7 (v8 + 1) c
set_option maxRecDepth 100000 in
theorem wX12_week_133 {Z : mm_Z} {X : mm_T} {k w mc ms d n N : Nat} {Q : mm_O → mm_H → Prop} (C : mm_Ok Z qX12_week X) (hRm : mt_R X = mm_rm d mc ms) (hd : 7 ≤ d) (hn : n + 1 < 1000000) (hk : k + 1 ≤ mc) (hw : w + 6 ≤ ms) {k76 : Nat → Int32 → Int32 → Int32 → Int32 → Int32 → Int32 → Int32 → mm_C → mR Int32} (hk76 : ∀ (v0 : Nat) (v1 : Int32) (v3 : Int32) (v4 : Int32) (v5 : Int32) (v6 : Int32) (v7 : Int32) (v8 : Int32) (c : mm_C), hO 0 ovI n (k76 v0 v1 v3 v4 v5 v6 v7 v8 c) Q → mG Z qX12_week X k w mc ms Q (76, [(0, .ref v0), (1, .int v1), (3, .int v3), (4, .int v4), (5, .int v5), (6, .int v6), (7, .int v7), (8, .int v8)], [], (n, c))) {v0 : Nat} {v1 : Int32} {v3 : Int32} {v4 : Int32} {v5 : Int32} {v7 : Int32} {v8 : Int32} {s0 : Int32} {c : mm_C} (hf : hO 0 ovI n (bX12_week_133 N  k76 v0 v1 v3 v4 v5 v7 v8 s0 c) Q) : mG Z qX12_week X k w mc ms Q (133, [(0, .ref v0), (1, .int v1), (3, .int v3), (4, .int v4), (5, .int v5), (7, .int v7), (8, .int v8)], [.int s0], (n, c)) := by
  unfold bX12_week_133 at hf
  refine mg_istore (lv' := [(0, .ref v0), (1, .int v1), (3, .int v3), (4, .int v4), (5, .int v5), (6, .int s0), (7, .int v7), (8, .int v8)]) C rfl (Nat.le_of_ble_eq_true rfl) rfl ?_
  refine mg_iinc (lv' := [(0, .ref v0), (1, .int v1), (3, .int v3), (4, .int v4), (5, .int v5), (6, .int s0), (7, .int v7), (8, .int (v8 + 1))]) C rfl (Nat.le_of_ble_eq_true rfl) rfl (show _ + Int32.ofInt 1 = _ + 1 by congr 1) rfl ?_
  refine mg_goto C rfl ?_
  exact hk76 _ _ _ _ _ _ _ _ _ hf
def bX12_week_76 (N : Nat)  (k76 : Nat → Int32 → Int32 → Int32 → Int32 → Int32 → Int32 → Int32 → mm_C → mR Int32) (v0 : Nat) (v1 : Int32) (v3 : Int32) (v4 : Int32) (v5 : Int32) (v6 : Int32) (v7 : Int32) (v8 : Int32) (c : mm_C) : mR Int32 :=
  if v3 ≤ v8 then (bX12_week_141 N  v0 v4 v5 v6 v7 c) else (cV 12 v0 c (fX12_drawSky N v0 c) fun (_ : Unit) c1 => cV 12 v0 c1 (fX12_dayBy N v0 v1 c1) fun (_ : Unit) c2 => Option.bind (gI c2 v0 12 35) fun x3 => cS (fX12_bitsOf N x3 c2) fun r4 c5 => Option.bind (gI c5 v0 12 36) fun x6 => if ¬ v8 = 0 then (bX12_week_133 N  k76 v0 v1 v3 v4 (v5 + r4) (v7 + x6) v8 (mnI v6 r4) c5) else (bX12_week_133 N  k76 v0 v1 v3 v4 (v5 + r4) (v7 + x6) v8 r4 c5))
set_option maxRecDepth 100000 in
theorem wX12_week_76 {Z : mm_Z} {X : mm_T} {k w mc ms d n N : Nat} {Q : mm_O → mm_H → Prop} (C : mm_Ok Z qX12_week X) (hRm : mt_R X = mm_rm d mc ms) (hd : 7 ≤ d) (hn : n + 1 < 1000000) (hk : k + 1 ≤ mc) (hw : w + 6 ≤ ms) {k76 : Nat → Int32 → Int32 → Int32 → Int32 → Int32 → Int32 → Int32 → mm_C → mR Int32} (hk76 : ∀ (v0 : Nat) (v1 : Int32) (v3 : Int32) (v4 : Int32) (v5 : Int32) (v6 : Int32) (v7 : Int32) (v8 : Int32) (c : mm_C), hO 0 ovI n (k76 v0 v1 v3 v4 v5 v6 v7 v8 c) Q → mG Z qX12_week X k w mc ms Q (76, [(0, .ref v0), (1, .int v1), (3, .int v3), (4, .int v4), (5, .int v5), (6, .int v6), (7, .int v7), (8, .int v8)], [], (n, c))) {v0 : Nat} {v1 : Int32} {v3 : Int32} {v4 : Int32} {v5 : Int32} {v6 : Int32} {v7 : Int32} {v8 : Int32} {c : mm_C} (hf : hO 0 ovI n (bX12_week_76 N  k76 v0 v1 v3 v4 v5 v6 v7 v8 c) Q) : mG Z qX12_week X k w mc ms Q (76, [(0, .ref v0), (1, .int v1), (3, .int v3), (4, .int v4), (5, .int v5), (6, .int v6), (7, .int v7), (8, .int v8)], [], (n, c)) := by
  unfold bX12_week_76 at hf
  refine mg_iload C rfl rfl ?_
  refine mg_iload_n C rfl rfl ?_
  refine mh_icmp_ge C rfl hf (fun e_79 hf => ?_) (fun e_79 hf => ?_)
  · refine mg_sub (lv' := [(0, .ref v0), (4, .int v4), (5, .int v5), (6, .int v6), (7, .int v7)]) (by simp) ?_
    exact wX12_week_141 C hRm hd hn hk hw hf
  · refine mg_aload_n C rfl rfl ?_
    refine mh_cVU (M' := qX12_drawSky) C rfl rfl aX12_drawSky iX12_drawSky sX12_drawSky hRm (by omega) (by decide) (by omega) (by omega) rfl rfl rfl (Nat.le_of_ble_eq_true rfl) rfl hf (fun hs => wX12_drawSky (by omega) (by omega) hs) (fun c1 hf => ?_)
    refine mg_aload_n C rfl rfl ?_
    refine mg_iload_n C rfl rfl ?_
    refine mh_cVU (M' := qX12_dayBy) C rfl rfl aX12_dayBy iX12_dayBy sX12_dayBy hRm (by omega) (by decide) (by omega) (by omega) rfl rfl rfl (Nat.le_of_ble_eq_true rfl) rfl hf (fun hs => wX12_dayBy (by omega) (by omega) hs) (fun c2 hf => ?_)
    refine mg_aload_n C rfl rfl ?_
    refine mh_gI C rfl rfl rfl (by decide) hf (fun x3 hf => ?_)
    refine mh_cSI (M' := qX12_bitsOf) C rfl rfl aX12_bitsOf tX12_bitsOf hRm (by omega) (by decide) (by omega) (by omega) rfl rfl (Nat.le_of_ble_eq_true rfl) rfl hf (fun hs => wX12_bitsOf (by omega) (by omega) hs) (fun r4 c5 hf => ?_)
    refine mg_istore (lv' := [(0, .ref v0), (1, .int v1), (3, .int v3), (4, .int v4), (5, .int v5), (6, .int v6), (7, .int v7), (8, .int v8), (9, .int r4)]) C rfl (Nat.le_of_ble_eq_true rfl) rfl ?_
    refine mg_iload C rfl rfl ?_
    refine mg_iload C rfl rfl ?_
    refine mg_iadd C rfl ?_
    refine mg_istore (lv' := [(0, .ref v0), (1, .int v1), (3, .int v3), (4, .int v4), (5, .int (v5 + r4)), (6, .int v6), (7, .int v7), (8, .int v8), (9, .int r4)]) C rfl (Nat.le_of_ble_eq_true rfl) rfl ?_
    refine mg_iload C rfl rfl ?_
    refine mg_aload_n C rfl rfl ?_
    refine mh_gI C rfl rfl rfl (by decide) hf (fun x6 hf => ?_)
    refine mg_iadd C rfl ?_
    refine mg_istore (lv' := [(0, .ref v0), (1, .int v1), (3, .int v3), (4, .int v4), (5, .int (v5 + r4)), (6, .int v6), (7, .int (v7 + x6)), (8, .int v8), (9, .int r4)]) C rfl (Nat.le_of_ble_eq_true rfl) rfl ?_
    refine mg_iload C rfl rfl ?_
    refine mh_if_ne C rfl hf (fun e_118 hf => ?_) (fun e_118 hf => ?_)
    · refine mg_iload C rfl rfl ?_
      refine mg_iload C rfl rfl ?_
      refine mh_mnI C rfl rfl hRm (by omega) (Nat.le_of_ble_eq_true rfl) ?_
      refine mg_sub (lv' := [(0, .ref v0), (1, .int v1), (3, .int v3), (4, .int v4), (5, .int (v5 + r4)), (7, .int (v7 + x6)), (8, .int v8)]) (by simp) ?_
      exact wX12_week_133 C hRm hd hn hk hw hk76 hf
    · refine mg_iload C rfl rfl ?_
      refine mg_goto C rfl ?_
      refine mg_sub (lv' := [(0, .ref v0), (1, .int v1), (3, .int v3), (4, .int v4), (5, .int (v5 + r4)), (7, .int (v7 + x6)), (8, .int v8)]) (by simp) ?_
      exact wX12_week_133 C hRm hd hn hk hw hk76 hf
def lX12_week_76 (N : Nat)  : Nat → Nat → Int32 → Int32 → Int32 → Int32 → Int32 → Int32 → Int32 → mm_C → mR Int32
  | 0, _, _, _, _, _, _, _, _, _ => none
  | m + 1, v0, v1, v3, v4, v5, v6, v7, v8, c => bX12_week_76 N  (lX12_week_76 N  m) v0 v1 v3 v4 v5 v6 v7 v8 c
theorem WX12_week_76 {Z : mm_Z} {X : mm_T} {k w mc ms d n N : Nat} {Q : mm_O → mm_H → Prop} (C : mm_Ok Z qX12_week X) (hRm : mt_R X = mm_rm d mc ms) (hd : 7 ≤ d) (hn : n + 1 < 1000000) (hk : k + 1 ≤ mc) (hw : w + 6 ≤ ms) : ∀ (m : Nat) {v0 : Nat} {v1 : Int32} {v3 : Int32} {v4 : Int32} {v5 : Int32} {v6 : Int32} {v7 : Int32} {v8 : Int32} {c : mm_C} (hf : hO 0 ovI n (lX12_week_76 N  m v0 v1 v3 v4 v5 v6 v7 v8 c) Q), mG Z qX12_week X k w mc ms Q (76, [(0, .ref v0), (1, .int v1), (3, .int v3), (4, .int v4), (5, .int v5), (6, .int v6), (7, .int v7), (8, .int v8)], [], (n, c)) := by
  intro m
  induction m with
  | zero => intro v0 v1 v3 v4 v5 v6 v7 v8 c hf; exact absurd hf hO_none
  | succ m ih => intro v0 v1 v3 v4 v5 v6 v7 v8 c hf; exact wX12_week_76 C hRm hd hn hk hw (fun v0 v1 v3 v4 v5 v6 v7 v8 c hf => ih hf) hf
def bX12_week_26 (N : Nat)  (v0 : Nat) (c : mm_C) : mR Int32 :=
  cV 12 v0 c (fX12_fail N v0 (1 : Int32) c) fun r1 c2 => some (.inl r1, c2)
set_option maxRecDepth 100000 in
theorem wX12_week_26 {Z : mm_Z} {X : mm_T} {k w mc ms d n N : Nat} {Q : mm_O → mm_H → Prop} (C : mm_Ok Z qX12_week X) (hRm : mt_R X = mm_rm d mc ms) (hd : 7 ≤ d) (hn : n + 1 < 1000000) (hk : k + 1 ≤ mc) (hw : w + 6 ≤ ms) {v0 : Nat} {c : mm_C} (hf : hO 0 ovI n (bX12_week_26 N  v0 c) Q) : mG Z qX12_week X k w mc ms Q (26, [(0, .ref v0)], [], (n, c)) := by
  unfold bX12_week_26 at hf
  refine mg_aload_n C rfl rfl ?_
  refine mg_iconst (v := 1) C rfl (by decide) ?_
  refine mh_cVI (M' := qX12_fail) C rfl rfl aX12_fail iX12_fail sX12_fail hRm (by omega) (by decide) (by omega) (by omega) rfl rfl rfl (Nat.le_of_ble_eq_true rfl) rfl hf (fun hs => wX12_fail (by omega) (by omega) hs) (fun r1 c2 hf => ?_)
  exact mh_ireturn C rfl (by omega) (by omega) rfl hf
def bX12_week_0 (N : Nat)  (v0 : Nat) (v1 : Int32) (v2 : Int32) (v3 : Int32) (v4 : Int32) (c : mm_C) : mR Int32 :=
  Option.bind (pI c v0 12 2 (0 : Int32)) fun c1 => cV 12 v0 c1 (fX12_isRule N v0 v1 c1) fun r2 c3 => if r2 = 0 then (bX12_week_26 N  v0 c3) else (cS (fX12_isIn N v4.toInt64 (0 : Int64) (2 : Int64) c3) fun r4 c5 => if ¬ r4 = 0 then (cS (fX12_isIn N v3.toInt64 (0 : Int64) (10 : Int64) c5) fun r6 c7 => if ¬ r6 = 0 then (Option.bind (gR c7 v0 12 51) fun x8 => cV 12 v0 c7 (fX12_pack N v0 x8 (0 : Int32) c7) fun (_ : Unit) c9 => Option.bind (pI c9 v0 12 50 v2) fun c10 => lX12_week_76 N  N v0 v1 v3 v4 (0 : Int32) (0 : Int32) (0 : Int32) (0 : Int32) c10) else (cV 12 v0 c7 (fX12_fail N v0 (2 : Int32) c7) fun r11 c12 => some (.inl r11, c12))) else (bX12_week_26 N  v0 c5))
set_option maxRecDepth 100000 in
theorem wX12_week_0 {Z : mm_Z} {X : mm_T} {k w mc ms d n N : Nat} {Q : mm_O → mm_H → Prop} (C : mm_Ok Z qX12_week X) (hRm : mt_R X = mm_rm d mc ms) (hd : 7 ≤ d) (hn : n + 1 < 1000000) (hk : k + 1 ≤ mc) (hw : w + 6 ≤ ms) {v0 : Nat} {v1 : Int32} {v2 : Int32} {v3 : Int32} {v4 : Int32} {c : mm_C} (hf : hO 0 ovI n (bX12_week_0 N  v0 v1 v2 v3 v4 c) Q) : mG Z qX12_week X k w mc ms Q (0, [(0, .ref v0), (1, .int v1), (2, .int v2), (3, .int v3), (4, .int v4)], [], (n, c)) := by
  unfold bX12_week_0 at hf
  refine mg_aload_n C rfl rfl ?_
  refine mg_iconst (v := 0) C rfl (by decide) ?_
  refine mh_pI C rfl rfl rfl (by decide) rfl rfl rfl hf (fun c1 hf => ?_)
  refine mg_aload_n C rfl rfl ?_
  refine mg_iload_n C rfl rfl ?_
  refine mh_cVI (M' := qX12_isRule) C rfl rfl aX12_isRule iX12_isRule sX12_isRule hRm (by omega) (by decide) (by omega) (by omega) rfl rfl rfl (Nat.le_of_ble_eq_true rfl) rfl hf (fun hs => wX12_isRule (by omega) (by omega) hs) (fun r2 c3 hf => ?_)
  refine mh_if_eq C rfl hf (fun e_10 hf => ?_) (fun e_10 hf => ?_)
  · refine mg_sub (lv' := [(0, .ref v0)]) (by simp) ?_
    exact wX12_week_26 C hRm hd hn hk hw hf
  · refine mg_iload C rfl rfl ?_
    refine mg_i2l C rfl ?_
    refine mg_lconst (v := 0) C rfl (by decide) ?_
    refine mg_ldc2_w C rfl rfl ?_
    refine mh_cSI (M' := qX12_isIn) C rfl rfl aX12_isIn tX12_isIn hRm (by omega) (by decide) (by omega) (by omega) rfl rfl (Nat.le_of_ble_eq_true rfl) rfl hf (fun hs => wX12_isIn (by omega) (by omega) hs) (fun r4 c5 hf => ?_)
    refine mh_if_ne C rfl hf (fun e_23 hf => ?_) (fun e_23 hf => ?_)
    · refine mg_iload_n C rfl rfl ?_
      refine mg_i2l C rfl ?_
      refine mg_lconst (v := 0) C rfl (by decide) ?_
      refine mg_ldc2_w C rfl rfl ?_
      refine mh_cSI (M' := qX12_isIn) C rfl rfl aX12_isIn tX12_isIn hRm (by omega) (by decide) (by omega) (by omega) rfl rfl (Nat.le_of_ble_eq_true rfl) rfl hf (fun hs => wX12_isIn (by omega) (by omega) hs) (fun r6 c7 hf => ?_)
      refine mh_if_ne C rfl hf (fun e_41 hf => ?_) (fun e_41 hf => ?_)
      · refine mg_aload_n C rfl rfl ?_
        refine mg_aload_n C rfl rfl ?_
        refine mh_gR C rfl rfl rfl (by decide) hf (fun x8 hf => ?_)
        refine mg_iconst (v := 0) C rfl (by decide) ?_
        refine mh_cVU (M' := qX12_pack) C rfl rfl aX12_pack iX12_pack sX12_pack hRm (by omega) (by decide) (by omega) (by omega) rfl rfl rfl (Nat.le_of_ble_eq_true rfl) rfl hf (fun hs => wX12_pack (by omega) (by omega) hs) (fun c9 hf => ?_)
        refine mg_aload_n C rfl rfl ?_
        refine mg_iload_n C rfl rfl ?_
        refine mh_pI C rfl rfl rfl (by decide) rfl rfl rfl hf (fun c10 hf => ?_)
        refine mg_iconst (v := 0) C rfl (by decide) ?_
        refine mg_istore (lv' := [(0, .ref v0), (1, .int v1), (2, .int v2), (3, .int v3), (4, .int v4), (5, .int (0 : Int32))]) C rfl (Nat.le_of_ble_eq_true rfl) rfl ?_
        refine mg_iconst (v := 0) C rfl (by decide) ?_
        refine mg_istore (lv' := [(0, .ref v0), (1, .int v1), (2, .int v2), (3, .int v3), (4, .int v4), (5, .int (0 : Int32)), (6, .int (0 : Int32))]) C rfl (Nat.le_of_ble_eq_true rfl) rfl ?_
        refine mg_iconst (v := 0) C rfl (by decide) ?_
        refine mg_istore (lv' := [(0, .ref v0), (1, .int v1), (2, .int v2), (3, .int v3), (4, .int v4), (5, .int (0 : Int32)), (6, .int (0 : Int32)), (7, .int (0 : Int32))]) C rfl (Nat.le_of_ble_eq_true rfl) rfl ?_
        refine mg_iconst (v := 0) C rfl (by decide) ?_
        refine mg_istore (lv' := [(0, .ref v0), (1, .int v1), (2, .int v2), (3, .int v3), (4, .int v4), (5, .int (0 : Int32)), (6, .int (0 : Int32)), (7, .int (0 : Int32)), (8, .int (0 : Int32))]) C rfl (Nat.le_of_ble_eq_true rfl) rfl ?_
        refine mg_sub (lv' := [(0, .ref v0), (1, .int v1), (3, .int v3), (4, .int v4), (5, .int (0 : Int32)), (6, .int (0 : Int32)), (7, .int (0 : Int32)), (8, .int (0 : Int32))]) (by simp) ?_
        exact WX12_week_76 C hRm hd hn hk hw N hf
      · refine mg_aload_n C rfl rfl ?_
        refine mg_iconst (v := 2) C rfl (by decide) ?_
        refine mh_cVI (M' := qX12_fail) C rfl rfl aX12_fail iX12_fail sX12_fail hRm (by omega) (by decide) (by omega) (by omega) rfl rfl rfl (Nat.le_of_ble_eq_true rfl) rfl hf (fun hs => wX12_fail (by omega) (by omega) hs) (fun r11 c12 hf => ?_)
        exact mh_ireturn C rfl (by omega) (by omega) rfl hf
    · refine mg_sub (lv' := [(0, .ref v0)]) (by simp) ?_
      exact wX12_week_26 C hRm hd hn hk hw hf
def fX12_week (N : Nat) (v0 : Nat) (v1 : Int32) (v2 : Int32) (v3 : Int32) (v4 : Int32) (c : mm_C) : mR Int32 := bX12_week_0 N v0 v1 v2 v3 v4 c
set_option maxRecDepth 100000 in
theorem wX12_week {Z : mm_Z} {d n N : Nat} (hd : 7 ≤ d) (hn : n + 1 < 1000000) {v0 : Nat} {v1 : Int32} {v2 : Int32} {v3 : Int32} {v4 : Int32} {c : mm_C} (hs : (fX12_week N v0 v1 v2 v3 v4 c).isSome = true) : mC Z qX12_week d 1 6 [.ref v0, .int v1, .int v2, .int v3, .int v4] (n, c) (mP 0 ovI n (fX12_week N v0 v1 v2 v3 v4 c)) := by
  refine mC_of gX12_week (by decide +kernel) (Nat.le_of_ble_eq_true rfl) fun X C hRm => ?_
  have hf := hO_mP 0 ovI n hs
  have hk : 0 + 1 ≤ 1 := Nat.le_of_ble_eq_true rfl
  have hw : 0 + 6 ≤ 6 := Nat.le_of_ble_eq_true rfl
  show mG _ _ _ _ _ _ _ _ (0, [(0, .ref v0), (1, .int v1), (2, .int v2), (3, .int v3), (4, .int v4)], [], (n, c))
  exact wX12_week_0 C hRm hd hn hk hw hf
def bX12_be_2 (N : Nat)  (k2 : Nat → Nat → Int32 → mm_C → mR Unit) (v0 : Nat) (v1 : Nat) (v2 : Int32) (c : mm_C) : mR Unit :=
  Option.bind (aN c v0) fun x1 => if x1 ≤ v2 then (some (.inl (), c)) else (Option.bind (aI c v1 v2) fun x2 => Option.bind (tI c v0 v2 x2) fun c3 => k2 v0 v1 (v2 + 1) c3)
set_option maxRecDepth 100000 in
theorem wX12_be_2 {Z : mm_Z} {X : mm_T} {k w mc ms d n N : Nat} {Q : mm_O → mm_H → Prop} (C : mm_Ok Z qX12_be X) (hRm : mt_R X = mm_rm d mc ms) (hd : 1 ≤ d) (hn : n + 1 < 1000000) (hk : k + 1 ≤ mc) (hw : w + 6 ≤ ms) {k2 : Nat → Nat → Int32 → mm_C → mR Unit} (hk2 : ∀ (v0 : Nat) (v1 : Nat) (v2 : Int32) (c : mm_C), hO 0 ovU n (k2 v0 v1 v2 c) Q → mG Z qX12_be X k w mc ms Q (2, [(0, .ref v0), (1, .ref v1), (2, .int v2)], [], (n, c))) {v0 : Nat} {v1 : Nat} {v2 : Int32} {c : mm_C} (hf : hO 0 ovU n (bX12_be_2 N  k2 v0 v1 v2 c) Q) : mG Z qX12_be X k w mc ms Q (2, [(0, .ref v0), (1, .ref v1), (2, .int v2)], [], (n, c)) := by
  unfold bX12_be_2 at hf
  refine mg_iload_n C rfl rfl ?_
  refine mg_aload_n C rfl rfl ?_
  refine mh_aN C rfl hf (fun x1 hf => ?_)
  refine mh_icmp_ge C rfl hf (fun e_5 hf => ?_) (fun e_5 hf => ?_)
  · exact mh_return C rfl (by omega) (by omega) rfl hf
  · refine mg_aload_n C rfl rfl ?_
    refine mg_iload_n C rfl rfl ?_
    refine mg_aload_n C rfl rfl ?_
    refine mg_iload_n C rfl rfl ?_
    refine mh_aI C rfl hf (fun x2 hf => ?_)
    refine mh_tI C rfl hf (fun c3 hf => ?_)
    refine mg_iinc (lv' := [(0, .ref v0), (1, .ref v1), (2, .int (v2 + 1))]) C rfl (Nat.le_of_ble_eq_true rfl) rfl (show _ + Int32.ofInt 1 = _ + 1 by congr 1) rfl ?_
    refine mg_goto C rfl ?_
    exact hk2 _ _ _ _ hf
def lX12_be_2 (N : Nat)  : Nat → Nat → Nat → Int32 → mm_C → mR Unit
  | 0, _, _, _, _ => none
  | m + 1, v0, v1, v2, c => bX12_be_2 N  (lX12_be_2 N  m) v0 v1 v2 c
theorem WX12_be_2 {Z : mm_Z} {X : mm_T} {k w mc ms d n N : Nat} {Q : mm_O → mm_H → Prop} (C : mm_Ok Z qX12_be X) (hRm : mt_R X = mm_rm d mc ms) (hd : 1 ≤ d) (hn : n + 1 < 1000000) (hk : k + 1 ≤ mc) (hw : w + 6 ≤ ms) : ∀ (m : Nat) {v0 : Nat} {v1 : Nat} {v2 : Int32} {c : mm_C} (hf : hO 0 ovU n (lX12_be_2 N  m v0 v1 v2 c) Q), mG Z qX12_be X k w mc ms Q (2, [(0, .ref v0), (1, .ref v1), (2, .int v2)], [], (n, c)) := by
  intro m
  induction m with
  | zero => intro v0 v1 v2 c hf; exact absurd hf hO_none
  | succ m ih => intro v0 v1 v2 c hf; exact wX12_be_2 C hRm hd hn hk hw (fun v0 v1 v2 c hf => ih hf) hf
def bX12_be_0 (N : Nat)  (v0 : Nat) (v1 : Nat) (c : mm_C) : mR Unit :=
  lX12_be_2 N  N v0 v1 (0 : Int32) c
set_option maxRecDepth 100000 in
theorem wX12_be_0 {Z : mm_Z} {X : mm_T} {k w mc ms d n N : Nat} {Q : mm_O → mm_H → Prop} (C : mm_Ok Z qX12_be X) (hRm : mt_R X = mm_rm d mc ms) (hd : 1 ≤ d) (hn : n + 1 < 1000000) (hk : k + 1 ≤ mc) (hw : w + 6 ≤ ms) {v0 : Nat} {v1 : Nat} {c : mm_C} (hf : hO 0 ovU n (bX12_be_0 N  v0 v1 c) Q) : mG Z qX12_be X k w mc ms Q (0, [(0, .ref v0), (1, .ref v1)], [], (n, c)) := by
  unfold bX12_be_0 at hf
  refine mg_iconst (v := 0) C rfl (by decide) ?_
  refine mg_istore_n (lv' := [(0, .ref v0), (1, .ref v1), (2, .int (0 : Int32))]) C rfl (Nat.le_of_ble_eq_true rfl) rfl ?_
  exact WX12_be_2 C hRm hd hn hk hw N hf
def fX12_be (N : Nat) (v0 : Nat) (v1 : Nat) (c : mm_C) : mR Unit := bX12_be_0 N v0 v1 c
set_option maxRecDepth 100000 in
theorem wX12_be {Z : mm_Z} {d n N : Nat} (hd : 1 ≤ d) (hn : n + 1 < 1000000) {v0 : Nat} {v1 : Nat} {c : mm_C} (hs : (fX12_be N v0 v1 c).isSome = true) : mC Z qX12_be d 1 6 [.ref v0, .ref v1] (n, c) (mP 0 ovU n (fX12_be N v0 v1 c)) := by
  refine mC_of gX12_be (by decide +kernel) (Nat.le_of_ble_eq_true rfl) fun X C hRm => ?_
  have hf := hO_mP 0 ovU n hs
  have hk : 0 + 1 ≤ 1 := Nat.le_of_ble_eq_true rfl
  have hw : 0 + 6 ≤ 6 := Nat.le_of_ble_eq_true rfl
  show mG _ _ _ _ _ _ _ _ (0, [(0, .ref v0), (1, .ref v1)], [], (n, c))
  exact wX12_be_0 C hRm hd hn hk hw hf
def bX12_image_0 (N : Nat)  (v0 : Nat) (c : mm_C) : mR Unit :=
  Option.bind (pI c v0 12 2 (0 : Int32)) fun c1 => Option.bind (pZ c1 v0 12 52 (1 : Int32)) fun c2 => Option.bind (gI c2 v0 12 28) fun x3 => Option.bind (pI c2 v0 12 53 x3) fun c4 => Option.bind (gI c4 v0 12 29) fun x5 => Option.bind (pI c4 v0 12 54 x5) fun c6 => Option.bind (gR c6 v0 12 55) fun x7 => cV 12 v0 c6 (fX12_pack N v0 x7 (0 : Int32) c6) fun (_ : Unit) c8 => Option.bind (gR c8 v0 12 56) fun x9 => Option.bind (gR c8 v0 12 27) fun x10 => cS (fX12_be N x9 x10 c8) fun (_ : Unit) c11 => Option.bind (gR c11 v0 12 57) fun x12 => Option.bind (gR c11 v0 12 47) fun x13 => cS (fX12_be N x12 x13 c11) fun (_ : Unit) c14 => Option.bind (gR c14 v0 12 58) fun x15 => Option.bind (gR c14 v0 12 48) fun x16 => cS (fX12_be N x15 x16 c14) fun (_ : Unit) c17 => Option.bind (gR c17 v0 12 59) fun x18 => Option.bind (gR c17 v0 12 49) fun x19 => cS (fX12_be N x18 x19 c17) fun (_ : Unit) c20 => Option.bind (gR c20 v0 12 60) fun x21 => Option.bind (gR c20 v0 12 14) fun x22 => cS (fX12_be N x21 x22 c20) fun (_ : Unit) c23 => some (.inl (), c23)
set_option maxRecDepth 100000 in
theorem wX12_image_0 {Z : mm_Z} {X : mm_T} {k w mc ms d n N : Nat} {Q : mm_O → mm_H → Prop} (C : mm_Ok Z qX12_image X) (hRm : mt_R X = mm_rm d mc ms) (hd : 2 ≤ d) (hn : n + 1 < 1000000) (hk : k + 1 ≤ mc) (hw : w + 6 ≤ ms) {v0 : Nat} {c : mm_C} (hf : hO 0 ovU n (bX12_image_0 N  v0 c) Q) : mG Z qX12_image X k w mc ms Q (0, [(0, .ref v0)], [], (n, c)) := by
  unfold bX12_image_0 at hf
  refine mg_aload_n C rfl rfl ?_
  refine mg_iconst (v := 0) C rfl (by decide) ?_
  refine mh_pI C rfl rfl rfl (by decide) rfl rfl rfl hf (fun c1 hf => ?_)
  refine mg_aload_n C rfl rfl ?_
  refine mg_iconst (v := 1) C rfl (by decide) ?_
  refine mh_pZ C rfl rfl rfl (by decide) rfl rfl hf (fun c2 hf => ?_)
  refine mg_aload_n C rfl rfl ?_
  refine mg_aload_n C rfl rfl ?_
  refine mh_gI C rfl rfl rfl (by decide) hf (fun x3 hf => ?_)
  refine mh_pI C rfl rfl rfl (by decide) rfl rfl rfl hf (fun c4 hf => ?_)
  refine mg_aload_n C rfl rfl ?_
  refine mg_aload_n C rfl rfl ?_
  refine mh_gI C rfl rfl rfl (by decide) hf (fun x5 hf => ?_)
  refine mh_pI C rfl rfl rfl (by decide) rfl rfl rfl hf (fun c6 hf => ?_)
  refine mg_aload_n C rfl rfl ?_
  refine mg_aload_n C rfl rfl ?_
  refine mh_gR C rfl rfl rfl (by decide) hf (fun x7 hf => ?_)
  refine mg_iconst (v := 0) C rfl (by decide) ?_
  refine mh_cVU (M' := qX12_pack) C rfl rfl aX12_pack iX12_pack sX12_pack hRm (by omega) (by decide) (by omega) (by omega) rfl rfl rfl (Nat.le_of_ble_eq_true rfl) rfl hf (fun hs => wX12_pack (by omega) (by omega) hs) (fun c8 hf => ?_)
  refine mg_aload_n C rfl rfl ?_
  refine mh_gR C rfl rfl rfl (by decide) hf (fun x9 hf => ?_)
  refine mg_aload_n C rfl rfl ?_
  refine mh_gR C rfl rfl rfl (by decide) hf (fun x10 hf => ?_)
  refine mh_cSU (M' := qX12_be) C rfl rfl aX12_be tX12_be hRm (by omega) (by decide) (by omega) (by omega) rfl rfl (Nat.le_of_ble_eq_true rfl) rfl hf (fun hs => wX12_be (by omega) (by omega) hs) (fun c11 hf => ?_)
  refine mg_aload_n C rfl rfl ?_
  refine mh_gR C rfl rfl rfl (by decide) hf (fun x12 hf => ?_)
  refine mg_aload_n C rfl rfl ?_
  refine mh_gR C rfl rfl rfl (by decide) hf (fun x13 hf => ?_)
  refine mh_cSU (M' := qX12_be) C rfl rfl aX12_be tX12_be hRm (by omega) (by decide) (by omega) (by omega) rfl rfl (Nat.le_of_ble_eq_true rfl) rfl hf (fun hs => wX12_be (by omega) (by omega) hs) (fun c14 hf => ?_)
  refine mg_aload_n C rfl rfl ?_
  refine mh_gR C rfl rfl rfl (by decide) hf (fun x15 hf => ?_)
  refine mg_aload_n C rfl rfl ?_
  refine mh_gR C rfl rfl rfl (by decide) hf (fun x16 hf => ?_)
  refine mh_cSU (M' := qX12_be) C rfl rfl aX12_be tX12_be hRm (by omega) (by decide) (by omega) (by omega) rfl rfl (Nat.le_of_ble_eq_true rfl) rfl hf (fun hs => wX12_be (by omega) (by omega) hs) (fun c17 hf => ?_)
  refine mg_aload_n C rfl rfl ?_
  refine mh_gR C rfl rfl rfl (by decide) hf (fun x18 hf => ?_)
  refine mg_aload_n C rfl rfl ?_
  refine mh_gR C rfl rfl rfl (by decide) hf (fun x19 hf => ?_)
  refine mh_cSU (M' := qX12_be) C rfl rfl aX12_be tX12_be hRm (by omega) (by decide) (by omega) (by omega) rfl rfl (Nat.le_of_ble_eq_true rfl) rfl hf (fun hs => wX12_be (by omega) (by omega) hs) (fun c20 hf => ?_)
  refine mg_aload_n C rfl rfl ?_
  refine mh_gR C rfl rfl rfl (by decide) hf (fun x21 hf => ?_)
  refine mg_aload_n C rfl rfl ?_
  refine mh_gR C rfl rfl rfl (by decide) hf (fun x22 hf => ?_)
  refine mh_cSU (M' := qX12_be) C rfl rfl aX12_be tX12_be hRm (by omega) (by decide) (by omega) (by omega) rfl rfl (Nat.le_of_ble_eq_true rfl) rfl hf (fun hs => wX12_be (by omega) (by omega) hs) (fun c23 hf => ?_)
  exact mh_return C rfl (by omega) (by omega) rfl hf
def fX12_image (N : Nat) (v0 : Nat) (c : mm_C) : mR Unit := bX12_image_0 N v0 c
set_option maxRecDepth 100000 in
theorem wX12_image {Z : mm_Z} {d n N : Nat} (hd : 2 ≤ d) (hn : n + 1 < 1000000) {v0 : Nat} {c : mm_C} (hs : (fX12_image N v0 c).isSome = true) : mC Z qX12_image d 1 6 [.ref v0] (n, c) (mP 0 ovU n (fX12_image N v0 c)) := by
  refine mC_of gX12_image (by decide +kernel) (Nat.le_of_ble_eq_true rfl) fun X C hRm => ?_
  have hf := hO_mP 0 ovU n hs
  have hk : 0 + 1 ≤ 1 := Nat.le_of_ble_eq_true rfl
  have hw : 0 + 6 ≤ 6 := Nat.le_of_ble_eq_true rfl
  show mG _ _ _ _ _ _ _ _ (0, [(0, .ref v0)], [], (n, c))
  exact wX12_image_0 C hRm hd hn hk hw hf
def bX12_restore_0 (N : Nat)  (v0 : Nat) (c : mm_C) : mR Int32 :=
  Option.bind (pI c v0 12 2 (0 : Int32)) fun c1 => Option.bind (gI c1 v0 12 52) fun x2 => if ¬ x2 = 0 then (Option.bind (gI c1 v0 12 53) fun x3 => Option.bind (pI c1 v0 12 28 x3) fun c4 => Option.bind (gI c4 v0 12 54) fun x5 => Option.bind (pI c4 v0 12 29 x5) fun c6 => Option.bind (gR c6 v0 12 55) fun x7 => cV 12 v0 c6 (fX12_unpack N v0 x7 (0 : Int32) c6) fun (_ : Unit) c8 => Option.bind (gR c8 v0 12 27) fun x9 => Option.bind (gR c8 v0 12 56) fun x10 => cS (fX12_be N x9 x10 c8) fun (_ : Unit) c11 => Option.bind (gR c11 v0 12 47) fun x12 => Option.bind (gR c11 v0 12 57) fun x13 => cS (fX12_be N x12 x13 c11) fun (_ : Unit) c14 => Option.bind (gR c14 v0 12 48) fun x15 => Option.bind (gR c14 v0 12 58) fun x16 => cS (fX12_be N x15 x16 c14) fun (_ : Unit) c17 => Option.bind (gR c17 v0 12 49) fun x18 => Option.bind (gR c17 v0 12 59) fun x19 => cS (fX12_be N x18 x19 c17) fun (_ : Unit) c20 => Option.bind (gR c20 v0 12 14) fun x21 => Option.bind (gR c20 v0 12 60) fun x22 => cS (fX12_be N x21 x22 c20) fun (_ : Unit) c23 => rZ (1 : Int32) c23) else (rZ (0 : Int32) c1)
set_option maxRecDepth 100000 in
theorem wX12_restore_0 {Z : mm_Z} {X : mm_T} {k w mc ms d n N : Nat} {Q : mm_O → mm_H → Prop} (C : mm_Ok Z qX12_restore X) (hRm : mt_R X = mm_rm d mc ms) (hd : 2 ≤ d) (hn : n + 1 < 1000000) (hk : k + 1 ≤ mc) (hw : w + 6 ≤ ms) {v0 : Nat} {c : mm_C} (hf : hO 0 ovI n (bX12_restore_0 N  v0 c) Q) : mG Z qX12_restore X k w mc ms Q (0, [(0, .ref v0)], [], (n, c)) := by
  unfold bX12_restore_0 at hf
  refine mg_aload_n C rfl rfl ?_
  refine mg_iconst (v := 0) C rfl (by decide) ?_
  refine mh_pI C rfl rfl rfl (by decide) rfl rfl rfl hf (fun c1 hf => ?_)
  refine mg_aload_n C rfl rfl ?_
  refine mh_gI C rfl rfl rfl (by decide) hf (fun x2 hf => ?_)
  refine mh_if_ne C rfl hf (fun e_9 hf => ?_) (fun e_9 hf => ?_)
  · refine mg_aload_n C rfl rfl ?_
    refine mg_aload_n C rfl rfl ?_
    refine mh_gI C rfl rfl rfl (by decide) hf (fun x3 hf => ?_)
    refine mh_pI C rfl rfl rfl (by decide) rfl rfl rfl hf (fun c4 hf => ?_)
    refine mg_aload_n C rfl rfl ?_
    refine mg_aload_n C rfl rfl ?_
    refine mh_gI C rfl rfl rfl (by decide) hf (fun x5 hf => ?_)
    refine mh_pI C rfl rfl rfl (by decide) rfl rfl rfl hf (fun c6 hf => ?_)
    refine mg_aload_n C rfl rfl ?_
    refine mg_aload_n C rfl rfl ?_
    refine mh_gR C rfl rfl rfl (by decide) hf (fun x7 hf => ?_)
    refine mg_iconst (v := 0) C rfl (by decide) ?_
    refine mh_cVU (M' := qX12_unpack) C rfl rfl aX12_unpack iX12_unpack sX12_unpack hRm (by omega) (by decide) (by omega) (by omega) rfl rfl rfl (Nat.le_of_ble_eq_true rfl) rfl hf (fun hs => wX12_unpack (by omega) (by omega) hs) (fun c8 hf => ?_)
    refine mg_aload_n C rfl rfl ?_
    refine mh_gR C rfl rfl rfl (by decide) hf (fun x9 hf => ?_)
    refine mg_aload_n C rfl rfl ?_
    refine mh_gR C rfl rfl rfl (by decide) hf (fun x10 hf => ?_)
    refine mh_cSU (M' := qX12_be) C rfl rfl aX12_be tX12_be hRm (by omega) (by decide) (by omega) (by omega) rfl rfl (Nat.le_of_ble_eq_true rfl) rfl hf (fun hs => wX12_be (by omega) (by omega) hs) (fun c11 hf => ?_)
    refine mg_aload_n C rfl rfl ?_
    refine mh_gR C rfl rfl rfl (by decide) hf (fun x12 hf => ?_)
    refine mg_aload_n C rfl rfl ?_
    refine mh_gR C rfl rfl rfl (by decide) hf (fun x13 hf => ?_)
    refine mh_cSU (M' := qX12_be) C rfl rfl aX12_be tX12_be hRm (by omega) (by decide) (by omega) (by omega) rfl rfl (Nat.le_of_ble_eq_true rfl) rfl hf (fun hs => wX12_be (by omega) (by omega) hs) (fun c14 hf => ?_)
    refine mg_aload_n C rfl rfl ?_
    refine mh_gR C rfl rfl rfl (by decide) hf (fun x15 hf => ?_)
    refine mg_aload_n C rfl rfl ?_
    refine mh_gR C rfl rfl rfl (by decide) hf (fun x16 hf => ?_)
    refine mh_cSU (M' := qX12_be) C rfl rfl aX12_be tX12_be hRm (by omega) (by decide) (by omega) (by omega) rfl rfl (Nat.le_of_ble_eq_true rfl) rfl hf (fun hs => wX12_be (by omega) (by omega) hs) (fun c17 hf => ?_)
    refine mg_aload_n C rfl rfl ?_
    refine mh_gR C rfl rfl rfl (by decide) hf (fun x18 hf => ?_)
    refine mg_aload_n C rfl rfl ?_
    refine mh_gR C rfl rfl rfl (by decide) hf (fun x19 hf => ?_)
    refine mh_cSU (M' := qX12_be) C rfl rfl aX12_be tX12_be hRm (by omega) (by decide) (by omega) (by omega) rfl rfl (Nat.le_of_ble_eq_true rfl) rfl hf (fun hs => wX12_be (by omega) (by omega) hs) (fun c20 hf => ?_)
    refine mg_aload_n C rfl rfl ?_
    refine mh_gR C rfl rfl rfl (by decide) hf (fun x21 hf => ?_)
    refine mg_aload_n C rfl rfl ?_
    refine mh_gR C rfl rfl rfl (by decide) hf (fun x22 hf => ?_)
    refine mh_cSU (M' := qX12_be) C rfl rfl aX12_be tX12_be hRm (by omega) (by decide) (by omega) (by omega) rfl rfl (Nat.le_of_ble_eq_true rfl) rfl hf (fun hs => wX12_be (by omega) (by omega) hs) (fun c23 hf => ?_)
    refine mg_iconst (v := 1) C rfl (by decide) ?_
    exact mh_zreturn C rfl (by omega) (by omega) rfl hf
  · refine mg_iconst (v := 0) C rfl (by decide) ?_
    exact mh_zreturn C rfl (by omega) (by omega) rfl hf
def fX12_restore (N : Nat) (v0 : Nat) (c : mm_C) : mR Int32 := bX12_restore_0 N v0 c
set_option maxRecDepth 100000 in
theorem wX12_restore {Z : mm_Z} {d n N : Nat} (hd : 2 ≤ d) (hn : n + 1 < 1000000) {v0 : Nat} {c : mm_C} (hs : (fX12_restore N v0 c).isSome = true) : mC Z qX12_restore d 1 6 [.ref v0] (n, c) (mP 0 ovI n (fX12_restore N v0 c)) := by
  refine mC_of gX12_restore (by decide +kernel) (Nat.le_of_ble_eq_true rfl) fun X C hRm => ?_
  have hf := hO_mP 0 ovI n hs
  have hk : 0 + 1 ≤ 1 := Nat.le_of_ble_eq_true rfl
  have hw : 0 + 6 ≤ 6 := Nat.le_of_ble_eq_true rfl
  show mG _ _ _ _ _ _ _ _ (0, [(0, .ref v0)], [], (n, c))
  exact wX12_restore_0 C hRm hd hn hk hw hf
