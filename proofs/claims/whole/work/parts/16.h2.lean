/- needs: 15.acall 15.fun 15.gcatch 16.g2 -/
set_option maxRecDepth 100000 in
theorem awX2_reads : mm_calW qX2_reads 3 := ⟨rfl, mm_in 978 (by decide +kernel) rfl, mm_in 115 (by decide +kernel) rfl, by decide +kernel, by decide +kernel, by decide +kernel⟩
def bX2_reads_0 (N : Nat)  (v0 : Nat) (v1 : Nat) (v2 : Int32) (v3 : Nat) (c : mm_C) : mR Int32 :=
  Option.bind (pR c v0 2 3 v3) fun c1 => Option.bind (gR c1 v0 2 3) fun x2 => cV 3 x2 c1 (fX3_clears N x2 c1) fun (_ : Unit) c3 => Option.bind (pZ c3 v0 2 4 (0 : Int32)) fun c4 => Option.bind (pZ c4 v0 2 5 (0 : Int32)) fun c5 => Option.bind (pZ c5 v0 2 6 (0 : Int32)) fun c6 => Option.bind (pI c6 v0 2 1 (0 : Int32)) fun c7 => Option.bind (pI c7 v0 2 0 (-1 : Int32)) fun c8 => Option.bind (gR c8 v0 2 2) fun x9 => cV 10 x9 c8 (fX10_begins N x9 v1 v2 c8) fun (_ : Unit) c10 => cX 2 v0 c10 (fX2_readsLines N v0 c10) (fun (_ : Unit) c12 => some (.inl (0 : Int32), c12)) (fun e14 c13 => if e14 = 0 then (Option.bind (gI c13 v0 2 1) fun x15 => some (.inl x15, c13)) else (none))
set_option maxRecDepth 100000 in
theorem wX2_reads_0 {Z : mm_Z} {X : mm_T} {k w mc ms d n N : Nat} {Q : mm_O → mm_H → Prop} (C : mm_Ok Z qX2_reads X) (hRm : mt_R X = mm_rm d mc ms) (hd : 103 ≤ d) (hn : n + 1 < 1000000) (hk : k + 1 ≤ mc) (hw : w + 6 ≤ ms) {v0 : Nat} {v1 : Nat} {v2 : Int32} {v3 : Nat} {c : mm_C} (hf : hO 1 ovI n (bX2_reads_0 N  v0 v1 v2 v3 c) Q) : mG Z qX2_reads X k w mc ms Q (0, [(0, .ref v0), (1, .ref v1), (2, .int v2), (3, .ref v3)], [], (n, c)) := by
  unfold bX2_reads_0 at hf
  refine mg_aload_n C rfl rfl ?_
  refine mg_aload_n C rfl rfl ?_
  refine mh_pR C rfl rfl rfl (by decide) rfl rfl rfl hf (fun c1 hf => ?_)
  refine mg_aload_n C rfl rfl ?_
  refine mh_gR C rfl rfl rfl (by decide) hf (fun x2 hf => ?_)
  refine mh_cVU (M' := qX3_clears) C rfl rfl aX3_clears iX3_clears sX3_clears hRm (by omega) (by decide) (by omega) (by omega) rfl rfl rfl (Nat.le_of_ble_eq_true rfl) rfl hf (fun hs => wX3_clears (by omega) (by omega) hs) (fun c3 hf => ?_)
  refine mg_aload_n C rfl rfl ?_
  refine mg_iconst (v := 0) C rfl (by decide) ?_
  refine mh_pZ C rfl rfl rfl (by decide) rfl rfl hf (fun c4 hf => ?_)
  refine mg_aload_n C rfl rfl ?_
  refine mg_iconst (v := 0) C rfl (by decide) ?_
  refine mh_pZ C rfl rfl rfl (by decide) rfl rfl hf (fun c5 hf => ?_)
  refine mg_aload_n C rfl rfl ?_
  refine mg_iconst (v := 0) C rfl (by decide) ?_
  refine mh_pZ C rfl rfl rfl (by decide) rfl rfl hf (fun c6 hf => ?_)
  refine mg_aload_n C rfl rfl ?_
  refine mg_iconst (v := 0) C rfl (by decide) ?_
  refine mh_pI C rfl rfl rfl (by decide) rfl rfl rfl hf (fun c7 hf => ?_)
  refine mg_aload_n C rfl rfl ?_
  refine mg_iconst (v := (-1)) C rfl (by decide) ?_
  refine mh_pI C rfl rfl rfl (by decide) rfl rfl rfl hf (fun c8 hf => ?_)
  refine mg_aload_n C rfl rfl ?_
  refine mh_gR C rfl rfl rfl (by decide) hf (fun x9 hf => ?_)
  refine mg_aload_n C rfl rfl ?_
  refine mg_iload_n C rfl rfl ?_
  refine mh_cVU (M' := qX10_begins) C rfl rfl aX10_begins iX10_begins sX10_begins hRm (by omega) (by decide) (by omega) (by omega) rfl rfl rfl (Nat.le_of_ble_eq_true rfl) rfl hf (fun hs => wX10_begins (by omega) (by omega) hs) (fun c10 hf => ?_)
  refine mg_aload_n C rfl rfl ?_
  refine mh_cXU (t := 0) (tn := 0) (kc := 1) (M' := qX2_readsLines) C rfl rfl aX2_readsLines iX2_readsLines sX2_readsLines hRm (by omega) (by decide) (by omega) (by omega) rfl rfl rfl (Nat.le_of_ble_eq_true rfl) hf (fun hs => wX2_readsLines (by omega) (by omega) hs) (fun c12 n hn1 hn2 hf => ?_) (fun e14 c13 n hn1 hn2 hf => ?_)
  · refine mg_goto C rfl ?_
    refine mg_iconst (v := 0) C rfl (by decide) ?_
    exact mh_ireturn C rfl (by omega) (by omega) rfl hf
  · refine mh_catch hf (fun e_53 hf => ?_) (fun hf => ?_)
    · subst e_53
      refine mx_catchW (nm := "java/lang/IllegalArgumentException") (pre := []) (suf := []) C rfl rfl (fun r hr => absurd hr List.not_mem_nil) (by decide) (by decide) (mm_in 979 (by decide +kernel) rfl) (by decide) rfl (by decide) ?_
      show mG _ _ _ _ _ _ _ _ (_, [(0, .ref v0), (1, .ref v1), (2, .int v2), (3, .ref v3)], _, _)
      refine mg_aload_n C rfl rfl ?_
      refine mh_gI C rfl rfl rfl (by decide) hf (fun x15 hf => ?_)
      exact mh_ireturn C rfl (by omega) (by omega) rfl hf
    exact absurd hf hO_none
def fX2_reads (N : Nat) (v0 : Nat) (v1 : Nat) (v2 : Int32) (v3 : Nat) (c : mm_C) : mR Int32 := bX2_reads_0 N v0 v1 v2 v3 c
set_option maxRecDepth 100000 in
theorem wX2_reads {Z : mm_Z} {d n N : Nat} (hd : 103 ≤ d) (hn : n + 1 < 1000000) {v0 : Nat} {v1 : Nat} {v2 : Int32} {v3 : Nat} {c : mm_C} (hs : (fX2_reads N v0 v1 v2 v3 c).isSome = true) : mC Z qX2_reads d 1 6 [.ref v0, .ref v1, .int v2, .ref v3] (n, c) (mP 1 ovI n (fX2_reads N v0 v1 v2 v3 c)) := by
  refine mC_of gX2_reads (by decide +kernel) (Nat.le_of_ble_eq_true rfl) fun X C hRm => ?_
  have hf := hO_mP 1 ovI n hs
  have hk : 0 + 1 ≤ 1 := Nat.le_of_ble_eq_true rfl
  have hw : 0 + 6 ≤ 6 := Nat.le_of_ble_eq_true rfl
  show mG _ _ _ _ _ _ _ _ (0, [(0, .ref v0), (1, .ref v1), (2, .int v2), (3, .ref v3)], [], (n, c))
  exact wX2_reads_0 C hRm hd hn hk hw hf
