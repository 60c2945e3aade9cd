/- needs: 15.acall 15.fun  -/
def bX7_place_0 (N : Nat)  (v0 : Nat) (c : mm_C) : mR Int32 :=
  Option.bind (gI c v0 7 0) fun x1 => if ¬ x1 = (2 : Int32) then (some (.inl (0 : Int32), c)) else (some (.inl (1 : Int32), c))
set_option maxRecDepth 100000 in
theorem wX7_place_0 {Z : mm_Z} {X : mm_T} {k w mc ms d n N : Nat} {Q : mm_O → mm_H → Prop} (C : mm_Ok Z qX7_place X) (hRm : mt_R X = mm_rm d mc ms) (hd : 1 ≤ d) (hn : n + 1 < 1000000) (hk : k + 1 ≤ mc) (hw : w + 6 ≤ ms) {v0 : Nat} {c : mm_C} (hf : hO 0 ovI n (bX7_place_0 N  v0 c) Q) : mG Z qX7_place X k w mc ms Q (0, [(0, .ref v0)], [], (n, c)) := by
  unfold bX7_place_0 at hf
  refine mg_aload_n C rfl rfl ?_
  refine mh_gI C rfl rfl rfl (by decide) hf (fun x1 hf => ?_)
  refine mg_iconst (v := 2) C rfl (by decide) ?_
  refine mh_icmp_ne C rfl hf (fun e_5 hf => ?_) (fun e_5 hf => ?_)
  · refine mg_iconst (v := 0) C rfl (by decide) ?_
    exact mh_ireturn C rfl (by omega) (by omega) rfl hf
  · refine mg_iconst (v := 1) C rfl (by decide) ?_
    refine mg_goto C rfl ?_
    exact mh_ireturn C rfl (by omega) (by omega) rfl hf
def fX7_place (N : Nat) (v0 : Nat) (c : mm_C) : mR Int32 := bX7_place_0 N v0 c
set_option maxRecDepth 100000 in
theorem wX7_place {Z : mm_Z} {d n N : Nat} (hd : 1 ≤ d) (hn : n + 1 < 1000000) {v0 : Nat} {c : mm_C} (hs : (fX7_place N v0 c).isSome = true) : mC Z qX7_place d 1 6 [.ref v0] (n, c) (mP 0 ovI n (fX7_place N v0 c)) := by
  refine mC_of gX7_place (by decide +kernel) (Nat.le_of_ble_eq_true rfl) fun X C hRm => ?_
  have hf := hO_mP 0 ovI n hs
  have hk : 0 + 1 ≤ 1 := Nat.le_of_ble_eq_true rfl
  have hw : 0 + 6 ≤ 6 := Nat.le_of_ble_eq_true rfl
  show mG _ _ _ _ _ _ _ _ (0, [(0, .ref v0)], [], (n, c))
  exact wX7_place_0 C hRm hd hn hk hw hf
