/- needs: 15.acall 15.fun 15.hctor 17.c1 -/
def nX0_init (n : Nat) (v0 : Nat) (v1 : Nat) (c : mm_C) : Option mm_C :=
  Option.bind (pI c v0 0 0 (0 : Int32)) fun c1 => Option.bind (pI c1 v0 0 1 (0 : Int32)) fun c2 => Option.bind (pI c2 v0 0 2 (0 : Int32)) fun c3 => Option.bind (pI c3 v0 0 3 (-1 : Int32)) fun c4 => Option.bind (pI c4 v0 0 4 (0 : Int32)) fun c5 => Option.bind (pI c5 v0 0 5 (0 : Int32)) fun c6 => Option.bind (mkA c6 n .int 8) fun c7 => Option.bind (pR c7 v0 0 6 n) fun c8 => Option.bind (mkA c8 (n + 1) .int 8) fun c9 => Option.bind (pR c9 v0 0 7 (n + 1)) fun c10 => Option.bind (mkO c10 (n + 2) 9) fun c11 => Option.bind (nX9_init (n + 3) (n + 2) c11) fun c12 => Option.bind (pR c12 v0 0 8 (n + 2)) fun c13 => Option.bind (pI c13 v0 0 11 (0 : Int32)) fun c14 => Option.bind (pI c14 v0 0 12 (0 : Int32)) fun c15 => Option.bind (pR c15 v0 0 10 v1) fun c16 => Option.bind (mkO c16 (n + 6) 1) fun c17 => Option.bind (gR c17 v0 0 8) fun x18 => Option.bind (nX1_init (n + 7) (n + 6) v1 x18 c17) fun c19 => Option.bind (pR c19 v0 0 9 (n + 6)) fun c20 => some c20
set_option maxRecDepth 100000 in
set_option maxHeartbeats 4000000 in
theorem uX0_init {Z : mm_Z} {d n : Nat} (hd : 3 ≤ d) (hn : n + 9 < 1000000) {v0 : Nat} {v1 : Nat} {c : mm_C} (hs : (nX0_init n v0 v1 c).isSome = true) : mC Z qX0_init d 9 1015 [.ref v0, .ref v1] (n, c) (mB (n + 9) (nX0_init n v0 v1 c)) := by
  refine mC_of gX0_init (by decide +kernel) (Nat.le_of_ble_eq_true rfl) fun X C hRm => ?_
  have hf := hB_mB (n + 9) hs
  generalize mB (n + 9) (nX0_init n v0 v1 c) = Q at hf ⊢
  unfold nX0_init at hf
  show mG _ _ _ 0 0 _ _ _ (0, [(0, .ref v0), (1, .ref v1)], [], (n, c))
  refine mg_aload_n C rfl rfl ?_
  refine mg_objInit C rfl rfl wo_inst wo_code hRm (by omega) (Nat.le_of_ble_eq_true rfl) ?_
  refine mg_aload_n C rfl rfl ?_
  refine mg_iconst (v := 0) C rfl (by decide) ?_
  refine mk_pI C rfl rfl rfl (by decide) rfl rfl rfl hf (fun c1 hf => ?_)
  refine mg_aload_n C rfl rfl ?_
  refine mg_iconst (v := 0) C rfl (by decide) ?_
  refine mk_pI C rfl rfl rfl (by decide) rfl rfl rfl hf (fun c2 hf => ?_)
  refine mg_aload_n C rfl rfl ?_
  refine mg_iconst (v := 0) C rfl (by decide) ?_
  refine mk_pI C rfl rfl rfl (by decide) rfl rfl rfl hf (fun c3 hf => ?_)
  refine mg_aload_n C rfl rfl ?_
  refine mg_iconst (v := (-1)) C rfl (by decide) ?_
  refine mk_pI C rfl rfl rfl (by decide) rfl rfl rfl hf (fun c4 hf => ?_)
  refine mg_aload_n C rfl rfl ?_
  refine mg_iconst (v := 0) C rfl (by decide) ?_
  refine mk_pI C rfl rfl rfl (by decide) rfl rfl rfl hf (fun c5 hf => ?_)
  refine mg_aload_n C rfl rfl ?_
  refine mg_iconst (v := 0) C rfl (by decide) ?_
  refine mk_pI C rfl rfl rfl (by decide) rfl rfl rfl hf (fun c6 hf => ?_)
  refine mg_aload_n C rfl rfl ?_
  refine mg_bipush (v := 8) C rfl (by decide) ?_
  refine mk_newI (N := 8) (ti := 0) C rfl rfl rfl wo_arint (by decide) (by decide) (by decide) (by decide) hRm (Nat.le_of_ble_eq_true rfl) (Nat.le_of_ble_eq_true rfl) (by omega) hf (fun c7 hf => ?_)
  show mG _ _ _ 1 8 _ _ _ (_, _, _, (n + 1, _))
  refine mk_pRf C rfl rfl rfl (by decide) rfl rfl rfl rfl rfl hf (fun c8 hf => ?_)
  refine mg_aload_n C rfl rfl ?_
  refine mg_bipush (v := 8) C rfl (by decide) ?_
  refine mk_newI (N := 8) (ti := 0) C rfl rfl rfl wo_arint (by decide) (by decide) (by decide) (by decide) hRm (Nat.le_of_ble_eq_true rfl) (Nat.le_of_ble_eq_true rfl) (by omega) hf (fun c9 hf => ?_)
  show mG _ _ _ 2 16 _ _ _ (_, _, _, (n + 2, _))
  refine mk_pRf C rfl rfl rfl (by decide) rfl rfl rfl rfl rfl hf (fun c10 hf => ?_)
  refine mg_aload_n C rfl rfl ?_
  refine mk_new C rfl rfl rfl wo_in9 wo_it9 dfl_9 hRm (Nat.le_of_ble_eq_true rfl) (Nat.le_of_ble_eq_true rfl) (by omega) hf (fun c11 hf => ?_)
  show mG _ _ _ 3 25 _ _ _ (_, _, _, (n + 3, _))
  refine mg_dup C rfl rfl ?_
  refine mk_cN (M' := qX9_init) (d' := d - 1) (mc' := 3) (ms' := 24) (m' := n + 6) (host := "CloudTakes") C rfl (by decide) aX9_init iX9_init rfl rfl hRm (by omega) (by decide) (Nat.le_of_ble_eq_true rfl) (Nat.le_of_ble_eq_true rfl) rfl rfl (Nat.le_of_ble_eq_true rfl) hf (fun hs => uX9_init (by omega) (by omega) hs) (fun c12 hf => ?_)
  show mG _ _ _ 6 49 _ _ _ (_, _, _, (n + 6, _))
  refine mk_pRf C rfl rfl rfl (by decide) rfl rfl rfl rfl rfl hf (fun c13 hf => ?_)
  refine mg_aload_n C rfl rfl ?_
  refine mg_iconst (v := 0) C rfl (by decide) ?_
  refine mk_pI C rfl rfl rfl (by decide) rfl rfl rfl hf (fun c14 hf => ?_)
  refine mg_aload_n C rfl rfl ?_
  refine mg_iconst (v := 0) C rfl (by decide) ?_
  refine mk_pI C rfl rfl rfl (by decide) rfl rfl rfl hf (fun c15 hf => ?_)
  refine mg_aload_n C rfl rfl ?_
  refine mg_aload_n C rfl rfl ?_
  refine mk_pR C rfl rfl rfl (by decide) rfl rfl rfl hf (fun c16 hf => ?_)
  refine mg_aload_n C rfl rfl ?_
  refine mk_new C rfl rfl rfl wo_in1 wo_it1 dfl_1 hRm (Nat.le_of_ble_eq_true rfl) (Nat.le_of_ble_eq_true rfl) (by omega) hf (fun c17 hf => ?_)
  show mG _ _ _ 7 54 _ _ _ (_, _, _, (n + 7, _))
  refine mg_dup C rfl rfl ?_
  refine mg_aload_n C rfl rfl ?_
  refine mg_aload_n C rfl rfl ?_
  refine mk_gR C rfl rfl rfl (by decide) hf (fun x18 hf => ?_)
  refine mk_cI (M' := qX1_init) (d' := d - 1) (mc' := 2) (ms' := 961) (m' := n + 9) C rfl rfl aX1_init iX1_init rfl rfl hRm (by omega) (by decide) (Nat.le_of_ble_eq_true rfl) (Nat.le_of_ble_eq_true rfl) rfl rfl (Nat.le_of_ble_eq_true rfl) hf (fun hs => uX1_init (by omega) (by omega) hs) (fun c19 hf => ?_)
  show mG _ _ _ 9 1015 _ _ _ (_, _, _, (n + 9, _))
  refine mk_pRf C rfl rfl rfl (by decide) rfl rfl rfl rfl rfl hf (fun c20 hf => ?_)
  exact mk_return C rfl (Nat.le_of_ble_eq_true rfl) (Nat.le_of_ble_eq_true rfl) rfl hf
def nX6_init (n : Nat) (v0 : Nat) (v1 : Nat) (v2 : Nat) (c : mm_C) : Option mm_C :=
  Option.bind (pI c v0 6 0 (0 : Int32)) fun c1 => Option.bind (pI c1 v0 6 1 (0 : Int32)) fun c2 => Option.bind (pI c2 v0 6 2 (0 : Int32)) fun c3 => Option.bind (pI c3 v0 6 3 (0 : Int32)) fun c4 => Option.bind (mkA c4 n .int 8) fun c5 => Option.bind (pR c5 v0 6 4 n) fun c6 => Option.bind (pI c6 v0 6 8 (0 : Int32)) fun c7 => Option.bind (mkM c7 (n + 1) 8 481) fun c8 => Option.bind (pR c8 v0 6 9 (n + 1)) fun c9 => Option.bind (mkM c9 (n + 10) 8 481) fun c10 => Option.bind (pR c10 v0 6 10 (n + 10)) fun c11 => Option.bind (mkA c11 (n + 19) .int 512) fun c12 => Option.bind (pR c12 v0 6 11 (n + 19)) fun c13 => Option.bind (mkA c13 (n + 20) .int 512) fun c14 => Option.bind (pR c14 v0 6 12 (n + 20)) fun c15 => Option.bind (pR c15 v0 6 6 v1) fun c16 => Option.bind (pR c16 v0 6 7 v2) fun c17 => Option.bind (mkO c17 (n + 21) 1) fun c18 => Option.bind (nX1_init (n + 22) (n + 21) v1 v2 c18) fun c19 => Option.bind (pR c19 v0 6 5 (n + 21)) fun c20 => some c20
set_option maxRecDepth 100000 in
set_option maxHeartbeats 4000000 in
theorem uX6_init {Z : mm_Z} {d n : Nat} (hd : 2 ≤ d) (hn : n + 24 < 1000000) {v0 : Nat} {v1 : Nat} {v2 : Nat} {c : mm_C} (hs : (nX6_init n v0 v1 v2 c).isSome = true) : mC Z qX6_init d 24 9710 [.ref v0, .ref v1, .ref v2] (n, c) (mB (n + 24) (nX6_init n v0 v1 v2 c)) := by
  refine mC_of gX6_init (by decide +kernel) (Nat.le_of_ble_eq_true rfl) fun X C hRm => ?_
  have hf := hB_mB (n + 24) hs
  generalize mB (n + 24) (nX6_init n v0 v1 v2 c) = Q at hf ⊢
  unfold nX6_init at hf
  show mG _ _ _ 0 0 _ _ _ (0, [(0, .ref v0), (1, .ref v1), (2, .ref v2)], [], (n, c))
  refine mg_aload_n C rfl rfl ?_
  refine mg_objInit C rfl rfl wo_inst wo_code hRm (by omega) (Nat.le_of_ble_eq_true rfl) ?_
  refine mg_aload_n C rfl rfl ?_
  refine mg_iconst (v := 0) C rfl (by decide) ?_
  refine mk_pI C rfl rfl rfl (by decide) rfl rfl rfl hf (fun c1 hf => ?_)
  refine mg_aload_n C rfl rfl ?_
  refine mg_iconst (v := 0) C rfl (by decide) ?_
  refine mk_pI C rfl rfl rfl (by decide) rfl rfl rfl hf (fun c2 hf => ?_)
  refine mg_aload_n C rfl rfl ?_
  refine mg_iconst (v := 0) C rfl (by decide) ?_
  refine mk_pI C rfl rfl rfl (by decide) rfl rfl rfl hf (fun c3 hf => ?_)
  refine mg_aload_n C rfl rfl ?_
  refine mg_iconst (v := 0) C rfl (by decide) ?_
  refine mk_pI C rfl rfl rfl (by decide) rfl rfl rfl hf (fun c4 hf => ?_)
  refine mg_aload_n C rfl rfl ?_
  refine mg_bipush (v := 8) C rfl (by decide) ?_
  refine mk_newI (N := 8) (ti := 0) C rfl rfl rfl wo_arint (by decide) (by decide) (by decide) (by decide) hRm (Nat.le_of_ble_eq_true rfl) (Nat.le_of_ble_eq_true rfl) (by omega) hf (fun c5 hf => ?_)
  show mG _ _ _ 1 8 _ _ _ (_, _, _, (n + 1, _))
  refine mk_pRf C rfl rfl rfl (by decide) rfl rfl rfl rfl rfl hf (fun c6 hf => ?_)
  refine mg_aload_n C rfl rfl ?_
  refine mg_iconst (v := 0) C rfl (by decide) ?_
  refine mk_pI C rfl rfl rfl (by decide) rfl rfl rfl hf (fun c7 hf => ?_)
  refine mg_aload_n C rfl rfl ?_
  refine mg_bipush (v := 8) C rfl (by decide) ?_
  refine mg_sipush (v := 481) C rfl (by decide) ?_
  refine mk_mna (N := 8) (K := 481) C rfl rfl wo_arint (by decide) (by decide) (by decide) (by decide) (by decide) (by decide) hRm (Nat.le_of_ble_eq_true rfl) (Nat.le_of_ble_eq_true rfl) (by omega) hf (fun c8 hf => ?_)
  show mG _ _ _ 10 3864 _ _ _ (_, _, _, (n + 10, _))
  refine mk_pRf C rfl rfl rfl (by decide) rfl rfl rfl rfl rfl hf (fun c9 hf => ?_)
  refine mg_aload_n C rfl rfl ?_
  refine mg_bipush (v := 8) C rfl (by decide) ?_
  refine mg_sipush (v := 481) C rfl (by decide) ?_
  refine mk_mna (N := 8) (K := 481) C rfl rfl wo_arint (by decide) (by decide) (by decide) (by decide) (by decide) (by decide) hRm (Nat.le_of_ble_eq_true rfl) (Nat.le_of_ble_eq_true rfl) (by omega) hf (fun c10 hf => ?_)
  show mG _ _ _ 19 7720 _ _ _ (_, _, _, (n + 19, _))
  refine mk_pRf C rfl rfl rfl (by decide) rfl rfl rfl rfl rfl hf (fun c11 hf => ?_)
  refine mg_aload_n C rfl rfl ?_
  refine mg_sipush (v := 512) C rfl (by decide) ?_
  refine mk_newI (N := 512) (ti := 0) C rfl rfl rfl wo_arint (by decide) (by decide) (by decide) (by decide) hRm (Nat.le_of_ble_eq_true rfl) (Nat.le_of_ble_eq_true rfl) (by omega) hf (fun c12 hf => ?_)
  show mG _ _ _ 20 8232 _ _ _ (_, _, _, (n + 20, _))
  refine mk_pRf C rfl rfl rfl (by decide) rfl rfl rfl rfl rfl hf (fun c13 hf => ?_)
  refine mg_aload_n C rfl rfl ?_
  refine mg_sipush (v := 512) C rfl (by decide) ?_
  refine mk_newI (N := 512) (ti := 0) C rfl rfl rfl wo_arint (by decide) (by decide) (by decide) (by decide) hRm (Nat.le_of_ble_eq_true rfl) (Nat.le_of_ble_eq_true rfl) (by omega) hf (fun c14 hf => ?_)
  show mG _ _ _ 21 8744 _ _ _ (_, _, _, (n + 21, _))
  refine mk_pRf C rfl rfl rfl (by decide) rfl rfl rfl rfl rfl hf (fun c15 hf => ?_)
  refine mg_aload_n C rfl rfl ?_
  refine mg_aload_n C rfl rfl ?_
  refine mk_pR C rfl rfl rfl (by decide) rfl rfl rfl hf (fun c16 hf => ?_)
  refine mg_aload_n C rfl rfl ?_
  refine mg_aload_n C rfl rfl ?_
  refine mk_pR C rfl rfl rfl (by decide) rfl rfl rfl hf (fun c17 hf => ?_)
  refine mg_aload_n C rfl rfl ?_
  refine mk_new C rfl rfl rfl wo_in1 wo_it1 dfl_1 hRm (Nat.le_of_ble_eq_true rfl) (Nat.le_of_ble_eq_true rfl) (by omega) hf (fun c18 hf => ?_)
  show mG _ _ _ 22 8749 _ _ _ (_, _, _, (n + 22, _))
  refine mg_dup C rfl rfl ?_
  refine mg_aload_n C rfl rfl ?_
  refine mg_aload_n C rfl rfl ?_
  refine mk_cI (M' := qX1_init) (d' := d - 1) (mc' := 2) (ms' := 961) (m' := n + 24) C rfl rfl aX1_init iX1_init rfl rfl hRm (by omega) (by decide) (Nat.le_of_ble_eq_true rfl) (Nat.le_of_ble_eq_true rfl) rfl rfl (Nat.le_of_ble_eq_true rfl) hf (fun hs => uX1_init (by omega) (by omega) hs) (fun c19 hf => ?_)
  show mG _ _ _ 24 9710 _ _ _ (_, _, _, (n + 24, _))
  refine mk_pRf C rfl rfl rfl (by decide) rfl rfl rfl rfl rfl hf (fun c20 hf => ?_)
  exact mk_return C rfl (Nat.le_of_ble_eq_true rfl) (Nat.le_of_ble_eq_true rfl) rfl hf
