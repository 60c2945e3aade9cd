/- needs: 15.acall 15.fun 15.hctor 17.c2 17.c3 -/
def nX11_init (n : Nat) (v0 : Nat) (c : mm_C) : Option mm_C :=
  Option.bind (mkA c n .byte 700) fun c1 => Option.bind (pR c1 v0 11 0 n) fun c2 => Option.bind (pI c2 v0 11 1 (0 : Int32)) fun c3 => Option.bind (pI c3 v0 11 2 (-1 : Int32)) fun c4 => Option.bind (mkO c4 (n + 1) 3) fun c5 => Option.bind (nX3_init (n + 2) (n + 1) c5) fun c6 => Option.bind (pR c6 v0 11 3 (n + 1)) fun c7 => Option.bind (mkO c7 (n + 17) 3) fun c8 => Option.bind (nX3_init (n + 18) (n + 17) c8) fun c9 => Option.bind (pR c9 v0 11 4 (n + 17)) fun c10 => Option.bind (mkO c10 (n + 33) 2) fun c11 => Option.bind (gR c11 v0 11 4) fun x12 => Option.bind (nX2_init (n + 34) (n + 33) x12 c11) fun c13 => Option.bind (pR c13 v0 11 5 (n + 33)) fun c14 => Option.bind (mkO c14 (n + 36) 5) fun c15 => Option.bind (nX5_init (n + 37) (n + 36) c15) fun c16 => Option.bind (pR c16 v0 11 6 (n + 36)) fun c17 => Option.bind (mkO c17 (n + 206) 5) fun c18 => Option.bind (nX5_init (n + 207) (n + 206) c18) fun c19 => Option.bind (pR c19 v0 11 7 (n + 206)) fun c20 => Option.bind (pI c20 v0 11 8 (0 : Int32)) fun c21 => Option.bind (mkO c21 (n + 376) 9) fun c22 => Option.bind (nX9_init (n + 377) (n + 376) c22) fun c23 => Option.bind (pR c23 v0 11 9 (n + 376)) fun c24 => Option.bind (mkO c24 (n + 380) 1) fun c25 => Option.bind (gR c25 v0 11 3) fun x26 => Option.bind (gR c25 v0 11 9) fun x27 => Option.bind (nX1_init (n + 381) (n + 380) x26 x27 c25) fun c28 => Option.bind (pR c28 v0 11 10 (n + 380)) fun c29 => Option.bind (mkO c29 (n + 383) 0) fun c30 => Option.bind (gR c30 v0 11 3) fun x31 => Option.bind (nX0_init (n + 384) (n + 383) x31 c30) fun c32 => Option.bind (pR c32 v0 11 11 (n + 383)) fun c33 => Option.bind (mkO c33 (n + 393) 6) fun c34 => Option.bind (gR c34 v0 11 3) fun x35 => Option.bind (gR c34 v0 11 9) fun x36 => Option.bind (nX6_init (n + 394) (n + 393) x35 x36 c34) fun c37 => Option.bind (pR c37 v0 11 12 (n + 393)) fun c38 => some c38
set_option maxRecDepth 100000 in
set_option maxHeartbeats 4000000 in
theorem uX11_init {Z : mm_Z} {d n : Nat} (hd : 4 ≤ d) (hn : n + 418 < 1000000) {v0 : Nat} {c : mm_C} (hs : (nX11_init n v0 c).isSome = true) : mC Z qX11_init d 418 17680 [.ref v0] (n, c) (mB (n + 418) (nX11_init n v0 c)) := by
  refine mC_of gX11_init (by decide +kernel) (Nat.le_of_ble_eq_true rfl) fun X C hRm => ?_
  have hf := hB_mB (n + 418) hs
  generalize mB (n + 418) (nX11_init n v0 c) = Q at hf ⊢
  unfold nX11_init at hf
  show mG _ _ _ 0 0 _ _ _ (0, [(0, .ref v0)], [], (n, c))
  refine mg_aload_n C rfl rfl ?_
  refine mg_objInit C rfl rfl wo_inst wo_code hRm (by omega) (Nat.le_of_ble_eq_true rfl) ?_
  refine mg_aload_n C rfl rfl ?_
  refine mg_sipush (v := 700) C rfl (by decide) ?_
  refine mk_newI (N := 700) (ti := 2) C rfl rfl rfl wo_arbyte (by decide) (by decide) (by decide) (by decide) hRm (Nat.le_of_ble_eq_true rfl) (Nat.le_of_ble_eq_true rfl) (by omega) hf (fun c1 hf => ?_)
  show mG _ _ _ 1 700 _ _ _ (_, _, _, (n + 1, _))
  refine mk_pRf C rfl rfl rfl (by decide) rfl rfl rfl rfl rfl hf (fun c2 hf => ?_)
  refine mg_aload_n C rfl rfl ?_
  refine mg_iconst (v := 0) C rfl (by decide) ?_
  refine mk_pI C rfl rfl rfl (by decide) rfl rfl rfl hf (fun c3 hf => ?_)
  refine mg_aload_n C rfl rfl ?_
  refine mg_iconst (v := (-1)) C rfl (by decide) ?_
  refine mk_pI C rfl rfl rfl (by decide) rfl rfl rfl hf (fun c4 hf => ?_)
  refine mg_aload_n C rfl rfl ?_
  refine mk_new C rfl rfl rfl wo_in3 wo_it3 dfl_3 hRm (Nat.le_of_ble_eq_true rfl) (Nat.le_of_ble_eq_true rfl) (by omega) hf (fun c5 hf => ?_)
  show mG _ _ _ 2 709 _ _ _ (_, _, _, (n + 2, _))
  refine mg_dup C rfl rfl ?_
  refine mk_cI (M' := qX3_init) (d' := d - 1) (mc' := 15) (ms' := 822) (m' := n + 17) C rfl rfl aX3_init iX3_init rfl rfl hRm (by omega) (by decide) (Nat.le_of_ble_eq_true rfl) (Nat.le_of_ble_eq_true rfl) rfl rfl (Nat.le_of_ble_eq_true rfl) hf (fun hs => uX3_init (by omega) (by omega) hs) (fun c6 hf => ?_)
  show mG _ _ _ 17 1531 _ _ _ (_, _, _, (n + 17, _))
  refine mk_pR C rfl rfl rfl (by decide) rfl rfl rfl hf (fun c7 hf => ?_)
  refine mg_aload_n C rfl rfl ?_
  refine mk_new C rfl rfl rfl wo_in3 wo_it3 dfl_3 hRm (Nat.le_of_ble_eq_true rfl) (Nat.le_of_ble_eq_true rfl) (by omega) hf (fun c8 hf => ?_)
  show mG _ _ _ 18 1540 _ _ _ (_, _, _, (n + 18, _))
  refine mg_dup C rfl rfl ?_
  refine mk_cI (M' := qX3_init) (d' := d - 1) (mc' := 15) (ms' := 822) (m' := n + 33) C rfl rfl aX3_init iX3_init rfl rfl hRm (by omega) (by decide) (Nat.le_of_ble_eq_true rfl) (Nat.le_of_ble_eq_true rfl) rfl rfl (Nat.le_of_ble_eq_true rfl) hf (fun hs => uX3_init (by omega) (by omega) hs) (fun c9 hf => ?_)
  show mG _ _ _ 33 2362 _ _ _ (_, _, _, (n + 33, _))
  refine mk_pR C rfl rfl rfl (by decide) rfl rfl rfl hf (fun c10 hf => ?_)
  refine mg_aload_n C rfl rfl ?_
  refine mk_new C rfl rfl rfl wo_in2 wo_it2 dfl_2 hRm (Nat.le_of_ble_eq_true rfl) (Nat.le_of_ble_eq_true rfl) (by omega) hf (fun c11 hf => ?_)
  show mG _ _ _ 34 2369 _ _ _ (_, _, _, (n + 34, _))
  refine mg_dup C rfl rfl ?_
  refine mg_aload_n C rfl rfl ?_
  refine mk_gR C rfl rfl rfl (by decide) hf (fun x12 hf => ?_)
  refine mk_cI (M' := qX2_init) (d' := d - 1) (mc' := 2) (ms' := 705) (m' := n + 36) C rfl rfl aX2_init iX2_init rfl rfl hRm (by omega) (by decide) (Nat.le_of_ble_eq_true rfl) (Nat.le_of_ble_eq_true rfl) rfl rfl (Nat.le_of_ble_eq_true rfl) hf (fun hs => uX2_init (by omega) (by omega) hs) (fun c13 hf => ?_)
  show mG _ _ _ 36 3074 _ _ _ (_, _, _, (n + 36, _))
  refine mk_pRf C rfl rfl rfl (by decide) rfl rfl rfl rfl rfl hf (fun c14 hf => ?_)
  refine mg_aload_n C rfl rfl ?_
  refine mk_new C rfl rfl rfl wo_in5 wo_it5 dfl_5 hRm (Nat.le_of_ble_eq_true rfl) (Nat.le_of_ble_eq_true rfl) (by omega) hf (fun c15 hf => ?_)
  show mG _ _ _ 37 3082 _ _ _ (_, _, _, (n + 37, _))
  refine mg_dup C rfl rfl ?_
  refine mk_cI (M' := qX5_init) (d' := d - 1) (mc' := 169) (ms' := 1420) (m' := n + 206) C rfl rfl aX5_init iX5_init rfl rfl hRm (by omega) (by decide) (Nat.le_of_ble_eq_true rfl) (Nat.le_of_ble_eq_true rfl) rfl rfl (Nat.le_of_ble_eq_true rfl) hf (fun hs => uX5_init (by omega) (by omega) hs) (fun c16 hf => ?_)
  show mG _ _ _ 206 4502 _ _ _ (_, _, _, (n + 206, _))
  refine mk_pRf C rfl rfl rfl (by decide) rfl rfl rfl rfl rfl hf (fun c17 hf => ?_)
  refine mg_aload_n C rfl rfl ?_
  refine mk_new C rfl rfl rfl wo_in5 wo_it5 dfl_5 hRm (Nat.le_of_ble_eq_true rfl) (Nat.le_of_ble_eq_true rfl) (by omega) hf (fun c18 hf => ?_)
  show mG _ _ _ 207 4510 _ _ _ (_, _, _, (n + 207, _))
  refine mg_dup C rfl rfl ?_
  refine mk_cI (M' := qX5_init) (d' := d - 1) (mc' := 169) (ms' := 1420) (m' := n + 376) C rfl rfl aX5_init iX5_init rfl rfl hRm (by omega) (by decide) (Nat.le_of_ble_eq_true rfl) (Nat.le_of_ble_eq_true rfl) rfl rfl (Nat.le_of_ble_eq_true rfl) hf (fun hs => uX5_init (by omega) (by omega) hs) (fun c19 hf => ?_)
  show mG _ _ _ 376 5930 _ _ _ (_, _, _, (n + 376, _))
  refine mk_pRf C rfl rfl rfl (by decide) rfl rfl rfl rfl rfl hf (fun c20 hf => ?_)
  refine mg_aload_n C rfl rfl ?_
  refine mg_iconst (v := 0) C rfl (by decide) ?_
  refine mk_pI C rfl rfl rfl (by decide) rfl rfl rfl hf (fun c21 hf => ?_)
  refine mg_aload_n C rfl rfl ?_
  refine mk_new C rfl rfl rfl wo_in9 wo_it9 dfl_9 hRm (Nat.le_of_ble_eq_true rfl) (Nat.le_of_ble_eq_true rfl) (by omega) hf (fun c22 hf => ?_)
  show mG _ _ _ 377 5939 _ _ _ (_, _, _, (n + 377, _))
  refine mg_dup C rfl rfl ?_
  refine mk_cN (M' := qX9_init) (d' := d - 1) (mc' := 3) (ms' := 24) (m' := n + 380) (host := "CloudTakes") C rfl (by decide) aX9_init iX9_init rfl rfl hRm (by omega) (by decide) (Nat.le_of_ble_eq_true rfl) (Nat.le_of_ble_eq_true rfl) rfl rfl (Nat.le_of_ble_eq_true rfl) hf (fun hs => uX9_init (by omega) (by omega) hs) (fun c23 hf => ?_)
  show mG _ _ _ 380 5963 _ _ _ (_, _, _, (n + 380, _))
  refine mk_pRf C rfl rfl rfl (by decide) rfl rfl rfl rfl rfl hf (fun c24 hf => ?_)
  refine mg_aload_n C rfl rfl ?_
  refine mk_new C rfl rfl rfl wo_in1 wo_it1 dfl_1 hRm (Nat.le_of_ble_eq_true rfl) (Nat.le_of_ble_eq_true rfl) (by omega) hf (fun c25 hf => ?_)
  show mG _ _ _ 381 5968 _ _ _ (_, _, _, (n + 381, _))
  refine mg_dup C rfl rfl ?_
  refine mg_aload_n C rfl rfl ?_
  refine mk_gR C rfl rfl rfl (by decide) hf (fun x26 hf => ?_)
  refine mg_aload_n C rfl rfl ?_
  refine mk_gR C rfl rfl rfl (by decide) hf (fun x27 hf => ?_)
  refine mk_cI (M' := qX1_init) (d' := d - 1) (mc' := 2) (ms' := 961) (m' := n + 383) C rfl rfl aX1_init iX1_init rfl rfl hRm (by omega) (by decide) (Nat.le_of_ble_eq_true rfl) (Nat.le_of_ble_eq_true rfl) rfl rfl (Nat.le_of_ble_eq_true rfl) hf (fun hs => uX1_init (by omega) (by omega) hs) (fun c28 hf => ?_)
  show mG _ _ _ 383 6929 _ _ _ (_, _, _, (n + 383, _))
  refine mk_pRf C rfl rfl rfl (by decide) rfl rfl rfl rfl rfl hf (fun c29 hf => ?_)
  refine mg_aload_n C rfl rfl ?_
  refine mk_new C rfl rfl rfl wo_in0 wo_it0 dfl_0 hRm (Nat.le_of_ble_eq_true rfl) (Nat.le_of_ble_eq_true rfl) (by omega) hf (fun c30 hf => ?_)
  show mG _ _ _ 384 6942 _ _ _ (_, _, _, (n + 384, _))
  refine mg_dup C rfl rfl ?_
  refine mg_aload_n C rfl rfl ?_
  refine mk_gR C rfl rfl rfl (by decide) hf (fun x31 hf => ?_)
  refine mk_cI (M' := qX0_init) (d' := d - 1) (mc' := 9) (ms' := 1015) (m' := n + 393) C rfl rfl aX0_init iX0_init rfl rfl hRm (by omega) (by decide) (Nat.le_of_ble_eq_true rfl) (Nat.le_of_ble_eq_true rfl) rfl rfl (Nat.le_of_ble_eq_true rfl) hf (fun hs => uX0_init (by omega) (by omega) hs) (fun c32 hf => ?_)
  show mG _ _ _ 393 7957 _ _ _ (_, _, _, (n + 393, _))
  refine mk_pRf C rfl rfl rfl (by decide) rfl rfl rfl rfl rfl hf (fun c33 hf => ?_)
  refine mg_aload_n C rfl rfl ?_
  refine mk_new C rfl rfl rfl wo_in6 wo_it6 dfl_6 hRm (Nat.le_of_ble_eq_true rfl) (Nat.le_of_ble_eq_true rfl) (by omega) hf (fun c34 hf => ?_)
  show mG _ _ _ 394 7970 _ _ _ (_, _, _, (n + 394, _))
  refine mg_dup C rfl rfl ?_
  refine mg_aload_n C rfl rfl ?_
  refine mk_gR C rfl rfl rfl (by decide) hf (fun x35 hf => ?_)
  refine mg_aload_n C rfl rfl ?_
  refine mk_gR C rfl rfl rfl (by decide) hf (fun x36 hf => ?_)
  refine mk_cI (M' := qX6_init) (d' := d - 1) (mc' := 24) (ms' := 9710) (m' := n + 418) C rfl rfl aX6_init iX6_init rfl rfl hRm (by omega) (by decide) (Nat.le_of_ble_eq_true rfl) (Nat.le_of_ble_eq_true rfl) rfl rfl (Nat.le_of_ble_eq_true rfl) hf (fun hs => uX6_init (by omega) (by omega) hs) (fun c37 hf => ?_)
  show mG _ _ _ 418 17680 _ _ _ (_, _, _, (n + 418, _))
  refine mk_pRf C rfl rfl rfl (by decide) rfl rfl rfl rfl rfl hf (fun c38 hf => ?_)
  exact mk_return C rfl (Nat.le_of_ble_eq_true rfl) (Nat.le_of_ble_eq_true rfl) rfl hf
