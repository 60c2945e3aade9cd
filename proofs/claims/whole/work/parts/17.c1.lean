/- needs: 15.acall 15.fun 15.hctor  -/
def nX8_init (n : Nat) (v0 : Nat) (c : mm_C) : Option mm_C :=
  Option.bind (mkA c n .int 15) fun c1 => Option.bind (pR c1 v0 8 0 n) fun c2 => some c2
set_option maxRecDepth 100000 in
set_option maxHeartbeats 4000000 in
theorem uX8_init {Z : mm_Z} {d n : Nat} (hd : 1 ≤ d) (hn : n + 1 < 1000000) {v0 : Nat} {c : mm_C} (hs : (nX8_init n v0 c).isSome = true) : mC Z qX8_init d 1 15 [.ref v0] (n, c) (mB (n + 1) (nX8_init n v0 c)) := by
  refine mC_of gX8_init (by decide +kernel) (Nat.le_of_ble_eq_true rfl) fun X C hRm => ?_
  have hf := hB_mB (n + 1) hs
  generalize mB (n + 1) (nX8_init n v0 c) = Q at hf ⊢
  unfold nX8_init at hf
  show mG _ _ _ 0 0 _ _ _ (0, [(0, .ref v0)], [], (n, c))
  refine mg_aload_n C rfl rfl ?_
  refine mg_objInit C rfl rfl wo_inst wo_code hRm (by omega) (Nat.le_of_ble_eq_true rfl) ?_
  refine mg_aload_n C rfl rfl ?_
  refine mg_bipush (v := 15) C rfl (by decide) ?_
  refine mk_newI (N := 15) (ti := 0) C rfl rfl rfl wo_arint (by decide) (by decide) (by decide) (by decide) hRm (Nat.le_of_ble_eq_true rfl) (Nat.le_of_ble_eq_true rfl) (by omega) hf (fun c1 hf => ?_)
  show mG _ _ _ 1 15 _ _ _ (_, _, _, (n + 1, _))
  refine mk_pRf C rfl rfl rfl (by decide) rfl rfl rfl rfl rfl hf (fun c2 hf => ?_)
  exact mk_return C rfl (Nat.le_of_ble_eq_true rfl) (Nat.le_of_ble_eq_true rfl) rfl hf
def nX7_init (n : Nat) (v0 : Nat) (c : mm_C) : Option mm_C :=
  Option.bind (pI c v0 7 0 (0 : Int32)) fun c1 => Option.bind (pI c1 v0 7 1 (0 : Int32)) fun c2 => Option.bind (pI c2 v0 7 2 (1 : Int32)) fun c3 => Option.bind (pI c3 v0 7 3 (0 : Int32)) fun c4 => Option.bind (pI c4 v0 7 4 (0 : Int32)) fun c5 => Option.bind (pI c5 v0 7 5 (-1 : Int32)) fun c6 => some c6
set_option maxRecDepth 100000 in
set_option maxHeartbeats 4000000 in
theorem uX7_init {Z : mm_Z} {d n : Nat} (hd : 1 ≤ d) (hn : n + 0 < 1000000) {v0 : Nat} {c : mm_C} (hs : (nX7_init n v0 c).isSome = true) : mC Z qX7_init d 0 0 [.ref v0] (n, c) (mB (n + 0) (nX7_init n v0 c)) := by
  refine mC_of gX7_init (by decide +kernel) (Nat.le_of_ble_eq_true rfl) fun X C hRm => ?_
  have hf := hB_mB (n + 0) hs
  generalize mB (n + 0) (nX7_init n v0 c) = Q at hf ⊢
  unfold nX7_init at hf
  show mG _ _ _ 0 0 _ _ _ (0, [(0, .ref v0)], [], (n, c))
  refine mg_aload_n C rfl rfl ?_
  refine mg_objInit C rfl rfl wo_inst wo_code hRm (by omega) (Nat.le_of_ble_eq_true rfl) ?_
  refine mg_aload_n C rfl rfl ?_
  refine mg_iconst (v := 0) C rfl (by decide) ?_
  refine mk_pI C rfl rfl rfl (by decide) rfl rfl rfl hf (fun c1 hf => ?_)
  refine mg_aload_n C rfl rfl ?_
  refine mg_iconst (v := 0) C rfl (by decide) ?_
  refine mk_pI C rfl rfl rfl (by decide) rfl rfl rfl hf (fun c2 hf => ?_)
  refine mg_aload_n C rfl rfl ?_
  refine mg_iconst (v := 1) C rfl (by decide) ?_
  refine mk_pI C rfl rfl rfl (by decide) rfl rfl rfl hf (fun c3 hf => ?_)
  refine mg_aload_n C rfl rfl ?_
  refine mg_iconst (v := 0) C rfl (by decide) ?_
  refine mk_pI C rfl rfl rfl (by decide) rfl rfl rfl hf (fun c4 hf => ?_)
  refine mg_aload_n C rfl rfl ?_
  refine mg_iconst (v := 0) C rfl (by decide) ?_
  refine mk_pI C rfl rfl rfl (by decide) rfl rfl rfl hf (fun c5 hf => ?_)
  refine mg_aload_n C rfl rfl ?_
  refine mg_iconst (v := (-1)) C rfl (by decide) ?_
  refine mk_pI C rfl rfl rfl (by decide) rfl rfl rfl hf (fun c6 hf => ?_)
  exact mk_return C rfl (Nat.le_of_ble_eq_true rfl) (Nat.le_of_ble_eq_true rfl) rfl hf
def nX4_init (n : Nat) (v0 : Nat) (c : mm_C) : Option mm_C :=
  Option.bind (pI c v0 4 0 (0 : Int32)) fun c1 => Option.bind (mkA c1 n .int 700) fun c2 => Option.bind (pR c2 v0 4 1 n) fun c3 => Option.bind (pI c3 v0 4 2 (0 : Int32)) fun c4 => Option.bind (mkA c4 (n + 1) .int 4) fun c5 => Option.bind (pR c5 v0 4 3 (n + 1)) fun c6 => Option.bind (mkA c6 (n + 2) .int 40) fun c7 => Option.bind (pR c7 v0 4 4 (n + 2)) fun c8 => Option.bind (pI c8 v0 4 5 (0 : Int32)) fun c9 => some c9
set_option maxRecDepth 100000 in
set_option maxHeartbeats 4000000 in
theorem uX4_init {Z : mm_Z} {d n : Nat} (hd : 1 ≤ d) (hn : n + 3 < 1000000) {v0 : Nat} {c : mm_C} (hs : (nX4_init n v0 c).isSome = true) : mC Z qX4_init d 3 744 [.ref v0] (n, c) (mB (n + 3) (nX4_init n v0 c)) := by
  refine mC_of gX4_init (by decide +kernel) (Nat.le_of_ble_eq_true rfl) fun X C hRm => ?_
  have hf := hB_mB (n + 3) hs
  generalize mB (n + 3) (nX4_init n v0 c) = Q at hf ⊢
  unfold nX4_init at hf
  show mG _ _ _ 0 0 _ _ _ (0, [(0, .ref v0)], [], (n, c))
  refine mg_aload_n C rfl rfl ?_
  refine mg_objInit C rfl rfl wo_inst wo_code hRm (by omega) (Nat.le_of_ble_eq_true rfl) ?_
  refine mg_aload_n C rfl rfl ?_
  refine mg_iconst (v := 0) C rfl (by decide) ?_
  refine mk_pI C rfl rfl rfl (by decide) rfl rfl rfl hf (fun c1 hf => ?_)
  refine mg_aload_n C rfl rfl ?_
  refine mg_sipush (v := 700) C rfl (by decide) ?_
  refine mk_newI (N := 700) (ti := 0) C rfl rfl rfl wo_arint (by decide) (by decide) (by decide) (by decide) hRm (Nat.le_of_ble_eq_true rfl) (Nat.le_of_ble_eq_true rfl) (by omega) hf (fun c2 hf => ?_)
  show mG _ _ _ 1 700 _ _ _ (_, _, _, (n + 1, _))
  refine mk_pRf C rfl rfl rfl (by decide) rfl rfl rfl rfl rfl hf (fun c3 hf => ?_)
  refine mg_aload_n C rfl rfl ?_
  refine mg_iconst (v := 0) C rfl (by decide) ?_
  refine mk_pI C rfl rfl rfl (by decide) rfl rfl rfl hf (fun c4 hf => ?_)
  refine mg_aload_n C rfl rfl ?_
  refine mg_iconst (v := 4) C rfl (by decide) ?_
  refine mk_newI (N := 4) (ti := 0) C rfl rfl rfl wo_arint (by decide) (by decide) (by decide) (by decide) hRm (Nat.le_of_ble_eq_true rfl) (Nat.le_of_ble_eq_true rfl) (by omega) hf (fun c5 hf => ?_)
  show mG _ _ _ 2 704 _ _ _ (_, _, _, (n + 2, _))
  refine mk_pRf C rfl rfl rfl (by decide) rfl rfl rfl rfl rfl hf (fun c6 hf => ?_)
  refine mg_aload_n C rfl rfl ?_
  refine mg_bipush (v := 40) C rfl (by decide) ?_
  refine mk_newI (N := 40) (ti := 0) C rfl rfl rfl wo_arint (by decide) (by decide) (by decide) (by decide) hRm (Nat.le_of_ble_eq_true rfl) (Nat.le_of_ble_eq_true rfl) (by omega) hf (fun c7 hf => ?_)
  show mG _ _ _ 3 744 _ _ _ (_, _, _, (n + 3, _))
  refine mk_pRf C rfl rfl rfl (by decide) rfl rfl rfl rfl rfl hf (fun c8 hf => ?_)
  refine mg_aload_n C rfl rfl ?_
  refine mg_iconst (v := 0) C rfl (by decide) ?_
  refine mk_pI C rfl rfl rfl (by decide) rfl rfl rfl hf (fun c9 hf => ?_)
  exact mk_return C rfl (Nat.le_of_ble_eq_true rfl) (Nat.le_of_ble_eq_true rfl) rfl hf
def nX9_init (n : Nat) (v0 : Nat) (c : mm_C) : Option mm_C :=
  Option.bind (pI c v0 9 0 (0 : Int32)) fun c1 => Option.bind (pI c1 v0 9 1 (0 : Int32)) fun c2 => Option.bind (pI c2 v0 9 2 (0 : Int32)) fun c3 => Option.bind (pI c3 v0 9 3 (0 : Int32)) fun c4 => Option.bind (pI c4 v0 9 4 (0 : Int32)) fun c5 => Option.bind (pI c5 v0 9 5 (0 : Int32)) fun c6 => Option.bind (pI c6 v0 9 6 (0 : Int32)) fun c7 => Option.bind (mkA c7 n .int 8) fun c8 => Option.bind (pR c8 v0 9 7 n) fun c9 => Option.bind (mkO c9 (n + 1) 8) fun c10 => Option.bind (nX8_init (n + 2) (n + 1) c10) fun c11 => Option.bind (pR c11 v0 9 8 (n + 1)) fun c12 => some c12
set_option maxRecDepth 100000 in
set_option maxHeartbeats 4000000 in
theorem uX9_init {Z : mm_Z} {d n : Nat} (hd : 2 ≤ d) (hn : n + 3 < 1000000) {v0 : Nat} {c : mm_C} (hs : (nX9_init n v0 c).isSome = true) : mC Z qX9_init d 3 24 [.ref v0] (n, c) (mB (n + 3) (nX9_init n v0 c)) := by
  refine mC_of gX9_init (by decide +kernel) (Nat.le_of_ble_eq_true rfl) fun X C hRm => ?_
  have hf := hB_mB (n + 3) hs
  generalize mB (n + 3) (nX9_init n v0 c) = Q at hf ⊢
  unfold nX9_init at hf
  show mG _ _ _ 0 0 _ _ _ (0, [(0, .ref v0)], [], (n, c))
  refine mg_aload_n C rfl rfl ?_
  refine mg_objInit C rfl rfl wo_inst wo_code hRm (by omega) (Nat.le_of_ble_eq_true rfl) ?_
  refine mg_aload_n C rfl rfl ?_
  refine mg_iconst (v := 0) C rfl (by decide) ?_
  refine mk_pI C rfl rfl rfl (by decide) rfl rfl rfl hf (fun c1 hf => ?_)
  refine mg_aload_n C rfl rfl ?_
  refine mg_iconst (v := 0) C rfl (by decide) ?_
  refine mk_pI C rfl rfl rfl (by decide) rfl rfl rfl hf (fun c2 hf => ?_)
  refine mg_aload_n C rfl rfl ?_
  refine mg_iconst (v := 0) C rfl (by decide) ?_
  refine mk_pI C rfl rfl rfl (by decide) rfl rfl rfl hf (fun c3 hf => ?_)
  refine mg_aload_n C rfl rfl ?_
  refine mg_iconst (v := 0) C rfl (by decide) ?_
  refine mk_pI C rfl rfl rfl (by decide) rfl rfl rfl hf (fun c4 hf => ?_)
  refine mg_aload_n C rfl rfl ?_
  refine mg_iconst (v := 0) C rfl (by decide) ?_
  refine mk_pI C rfl rfl rfl (by decide) rfl rfl rfl hf (fun c5 hf => ?_)
  refine mg_aload_n C rfl rfl ?_
  refine mg_iconst (v := 0) C rfl (by decide) ?_
  refine mk_pI C rfl rfl rfl (by decide) rfl rfl rfl hf (fun c6 hf => ?_)
  refine mg_aload_n C rfl rfl ?_
  refine mg_iconst (v := 0) C rfl (by decide) ?_
  refine mk_pI C rfl rfl rfl (by decide) rfl rfl rfl hf (fun c7 hf => ?_)
  refine mg_aload_n C rfl rfl ?_
  refine mg_bipush (v := 8) C rfl (by decide) ?_
  refine mk_newI (N := 8) (ti := 0) C rfl rfl rfl wo_arint (by decide) (by decide) (by decide) (by decide) hRm (Nat.le_of_ble_eq_true rfl) (Nat.le_of_ble_eq_true rfl) (by omega) hf (fun c8 hf => ?_)
  show mG _ _ _ 1 8 _ _ _ (_, _, _, (n + 1, _))
  refine mk_pRf C rfl rfl rfl (by decide) rfl rfl rfl rfl rfl hf (fun c9 hf => ?_)
  refine mg_aload_n C rfl rfl ?_
  refine mk_new C rfl rfl rfl wo_in8 wo_it8 dfl_8 hRm (Nat.le_of_ble_eq_true rfl) (Nat.le_of_ble_eq_true rfl) (by omega) hf (fun c10 hf => ?_)
  show mG _ _ _ 2 9 _ _ _ (_, _, _, (n + 2, _))
  refine mg_dup C rfl rfl ?_
  refine mk_cN (M' := qX8_init) (d' := d - 1) (mc' := 1) (ms' := 15) (m' := n + 3) (host := "CloudTakes") C rfl (by decide) aX8_init iX8_init rfl rfl hRm (by omega) (by decide) (Nat.le_of_ble_eq_true rfl) (Nat.le_of_ble_eq_true rfl) rfl rfl (Nat.le_of_ble_eq_true rfl) hf (fun hs => uX8_init (by omega) (by omega) hs) (fun c11 hf => ?_)
  show mG _ _ _ 3 24 _ _ _ (_, _, _, (n + 3, _))
  refine mk_pRf C rfl rfl rfl (by decide) rfl rfl rfl rfl rfl hf (fun c12 hf => ?_)
  exact mk_return C rfl (Nat.le_of_ble_eq_true rfl) (Nat.le_of_ble_eq_true rfl) rfl hf
def nX3_init (n : Nat) (v0 : Nat) (c : mm_C) : Option mm_C :=
  Option.bind (pI c v0 3 0 (240 : Int32)) fun c1 => Option.bind (pI c1 v0 3 1 (50 : Int32)) fun c2 => Option.bind (pI c2 v0 3 2 (1 : Int32)) fun c3 => Option.bind (pI c3 v0 3 3 (0 : Int32)) fun c4 => Option.bind (pI c4 v0 3 4 (0 : Int32)) fun c5 => Option.bind (pI c5 v0 3 5 (0 : Int32)) fun c6 => Option.bind (mkR c6 n "CloudTakes$Shot" 8) fun c7 => Option.bind (pR c7 v0 3 6 n) fun c8 => Option.bind (mkO c8 (n + 1) 8) fun c9 => Option.bind (nX8_init (n + 2) (n + 1) c9) fun c10 => Option.bind (pR c10 v0 3 7 (n + 1)) fun c11 => Option.bind (mkO c11 (n + 3) 4) fun c12 => Option.bind (nX4_init (n + 4) (n + 3) c12) fun c13 => Option.bind (pR c13 v0 3 8 (n + 3)) fun c14 => Option.bind (gR c14 v0 3 6) fun x15 => Option.bind (mkO c14 (n + 7) 7) fun c16 => Option.bind (nX7_init (n + 8) (n + 7) c16) fun c17 => Option.bind (tR "CloudTakes$Shot" 7 c17 x15 (0 : Int32) (n + 7)) fun c18 => Option.bind (gR c18 v0 3 6) fun x19 => Option.bind (mkO c18 (n + 8) 7) fun c20 => Option.bind (nX7_init (n + 9) (n + 8) c20) fun c21 => Option.bind (tR "CloudTakes$Shot" 7 c21 x19 (1 : Int32) (n + 8)) fun c22 => Option.bind (gR c22 v0 3 6) fun x23 => Option.bind (mkO c22 (n + 9) 7) fun c24 => Option.bind (nX7_init (n + 10) (n + 9) c24) fun c25 => Option.bind (tR "CloudTakes$Shot" 7 c25 x23 (2 : Int32) (n + 9)) fun c26 => Option.bind (gR c26 v0 3 6) fun x27 => Option.bind (mkO c26 (n + 10) 7) fun c28 => Option.bind (nX7_init (n + 11) (n + 10) c28) fun c29 => Option.bind (tR "CloudTakes$Shot" 7 c29 x27 (3 : Int32) (n + 10)) fun c30 => Option.bind (gR c30 v0 3 6) fun x31 => Option.bind (mkO c30 (n + 11) 7) fun c32 => Option.bind (nX7_init (n + 12) (n + 11) c32) fun c33 => Option.bind (tR "CloudTakes$Shot" 7 c33 x31 (4 : Int32) (n + 11)) fun c34 => Option.bind (gR c34 v0 3 6) fun x35 => Option.bind (mkO c34 (n + 12) 7) fun c36 => Option.bind (nX7_init (n + 13) (n + 12) c36) fun c37 => Option.bind (tR "CloudTakes$Shot" 7 c37 x35 (5 : Int32) (n + 12)) fun c38 => Option.bind (gR c38 v0 3 6) fun x39 => Option.bind (mkO c38 (n + 13) 7) fun c40 => Option.bind (nX7_init (n + 14) (n + 13) c40) fun c41 => Option.bind (tR "CloudTakes$Shot" 7 c41 x39 (6 : Int32) (n + 13)) fun c42 => Option.bind (gR c42 v0 3 6) fun x43 => Option.bind (mkO c42 (n + 14) 7) fun c44 => Option.bind (nX7_init (n + 15) (n + 14) c44) fun c45 => Option.bind (tR "CloudTakes$Shot" 7 c45 x43 (7 : Int32) (n + 14)) fun c46 => some c46
set_option maxRecDepth 100000 in
set_option maxHeartbeats 4000000 in
theorem uX3_init {Z : mm_Z} {d n : Nat} (hd : 2 ≤ d) (hn : n + 15 < 1000000) {v0 : Nat} {c : mm_C} (hs : (nX3_init n v0 c).isSome = true) : mC Z qX3_init d 15 822 [.ref v0] (n, c) (mB (n + 15) (nX3_init n v0 c)) := by
  refine mC_of gX3_init (by decide +kernel) (Nat.le_of_ble_eq_true rfl) fun X C hRm => ?_
  have hf := hB_mB (n + 15) hs
  generalize mB (n + 15) (nX3_init n v0 c) = Q at hf ⊢
  unfold nX3_init at hf
  show mG _ _ _ 0 0 _ _ _ (0, [(0, .ref v0)], [], (n, c))
  refine mg_aload_n C rfl rfl ?_
  refine mg_objInit C rfl rfl wo_inst wo_code hRm (by omega) (Nat.le_of_ble_eq_true rfl) ?_
  refine mg_aload_n C rfl rfl ?_
  refine mg_sipush (v := 240) C rfl (by decide) ?_
  refine mk_pI C rfl rfl rfl (by decide) rfl rfl rfl hf (fun c1 hf => ?_)
  refine mg_aload_n C rfl rfl ?_
  refine mg_bipush (v := 50) C rfl (by decide) ?_
  refine mk_pI C rfl rfl rfl (by decide) rfl rfl rfl hf (fun c2 hf => ?_)
  refine mg_aload_n C rfl rfl ?_
  refine mg_iconst (v := 1) C rfl (by decide) ?_
  refine mk_pI C rfl rfl rfl (by decide) rfl rfl rfl hf (fun c3 hf => ?_)
  refine mg_aload_n C rfl rfl ?_
  refine mg_iconst (v := 0) C rfl (by decide) ?_
  refine mk_pI C rfl rfl rfl (by decide) rfl rfl rfl hf (fun c4 hf => ?_)
  refine mg_aload_n C rfl rfl ?_
  refine mg_iconst (v := 0) C rfl (by decide) ?_
  refine mk_pI C rfl rfl rfl (by decide) rfl rfl rfl hf (fun c5 hf => ?_)
  refine mg_aload_n C rfl rfl ?_
  refine mg_iconst (v := 0) C rfl (by decide) ?_
  refine mk_pI C rfl rfl rfl (by decide) rfl rfl rfl hf (fun c6 hf => ?_)
  refine mg_aload_n C rfl rfl ?_
  refine mg_bipush (v := 8) C rfl (by decide) ?_
  refine mk_newR (N := 8) (ti := 4) C rfl rfl (fun h => h.2.2.2.2.1) rfl (by decide) (by decide) (by decide) hRm (Nat.le_of_ble_eq_true rfl) (Nat.le_of_ble_eq_true rfl) (by omega) hf (fun c7 hf => ?_)
  show mG _ _ _ 1 8 _ _ _ (_, _, _, (n + 1, _))
  refine mk_pRf C rfl rfl rfl (by decide) rfl rfl rfl rfl rfl hf (fun c8 hf => ?_)
  refine mg_aload_n C rfl rfl ?_
  refine mk_new C rfl rfl rfl wo_in8 wo_it8 dfl_8 hRm (Nat.le_of_ble_eq_true rfl) (Nat.le_of_ble_eq_true rfl) (by omega) hf (fun c9 hf => ?_)
  show mG _ _ _ 2 9 _ _ _ (_, _, _, (n + 2, _))
  refine mg_dup C rfl rfl ?_
  refine mk_cN (M' := qX8_init) (d' := d - 1) (mc' := 1) (ms' := 15) (m' := n + 3) (host := "CloudTakes") C rfl (by decide) aX8_init iX8_init rfl rfl hRm (by omega) (by decide) (Nat.le_of_ble_eq_true rfl) (Nat.le_of_ble_eq_true rfl) rfl rfl (Nat.le_of_ble_eq_true rfl) hf (fun hs => uX8_init (by omega) (by omega) hs) (fun c10 hf => ?_)
  show mG _ _ _ 3 24 _ _ _ (_, _, _, (n + 3, _))
  refine mk_pRf C rfl rfl rfl (by decide) rfl rfl rfl rfl rfl hf (fun c11 hf => ?_)
  refine mg_aload_n C rfl rfl ?_
  refine mk_new C rfl rfl rfl wo_in4 wo_it4 dfl_4 hRm (Nat.le_of_ble_eq_true rfl) (Nat.le_of_ble_eq_true rfl) (by omega) hf (fun c12 hf => ?_)
  show mG _ _ _ 4 30 _ _ _ (_, _, _, (n + 4, _))
  refine mg_dup C rfl rfl ?_
  refine mk_cN (M' := qX4_init) (d' := d - 1) (mc' := 3) (ms' := 744) (m' := n + 7) (host := "CloudTakes") C rfl (by decide) aX4_init iX4_init rfl rfl hRm (by omega) (by decide) (Nat.le_of_ble_eq_true rfl) (Nat.le_of_ble_eq_true rfl) rfl rfl (Nat.le_of_ble_eq_true rfl) hf (fun hs => uX4_init (by omega) (by omega) hs) (fun c13 hf => ?_)
  show mG _ _ _ 7 774 _ _ _ (_, _, _, (n + 7, _))
  refine mk_pRf C rfl rfl rfl (by decide) rfl rfl rfl rfl rfl hf (fun c14 hf => ?_)
  refine mg_iconst (v := 0) C rfl (by decide) ?_
  refine mg_istore_n (lv' := [(0, .ref v0), (1, .int (0 : Int32))]) C rfl (Nat.le_of_ble_eq_true rfl) rfl ?_
  refine mg_iload_n C rfl rfl ?_
  refine mg_bipush (v := 8) C rfl (by decide) ?_
  refine mg_icmp_ge C rfl (fun h => absurd h (by decide)) (fun _ => ?_)
  refine mg_aload_n C rfl rfl ?_
  refine mk_gR C rfl rfl rfl (by decide) hf (fun x15 hf => ?_)
  refine mg_iload_n C rfl rfl ?_
  refine mk_new C rfl rfl rfl wo_in7 wo_it7 dfl_7 hRm (Nat.le_of_ble_eq_true rfl) (Nat.le_of_ble_eq_true rfl) (by omega) hf (fun c16 hf => ?_)
  show mG _ _ _ 8 780 _ _ _ (_, _, _, (n + 8, _))
  refine mg_dup C rfl rfl ?_
  refine mk_cN (M' := qX7_init) (d' := d - 1) (mc' := 0) (ms' := 0) (m' := n + 8) (host := "CloudTakes") C rfl (by decide) aX7_init iX7_init rfl rfl hRm (by omega) (by decide) (Nat.le_of_ble_eq_true rfl) (Nat.le_of_ble_eq_true rfl) rfl rfl (Nat.le_of_ble_eq_true rfl) hf (fun hs => uX7_init (by omega) (by omega) hs) (fun c17 hf => ?_)
  show mG _ _ _ 8 780 _ _ _ (_, _, _, (n + 8, _))
  refine mk_tR (ti := 4) C rfl rfl rfl hf (fun c18 hf => ?_)
  refine mg_iinc (v := 1) (lv' := [(0, .ref v0), (1, .int (1 : Int32))]) C rfl (Nat.le_of_ble_eq_true rfl) rfl (by decide) rfl ?_
  refine mg_goto C rfl ?_
  refine mg_iload_n C rfl rfl ?_
  refine mg_bipush (v := 8) C rfl (by decide) ?_
  refine mg_icmp_ge C rfl (fun h => absurd h (by decide)) (fun _ => ?_)
  refine mg_aload_n C rfl rfl ?_
  refine mk_gR C rfl rfl rfl (by decide) hf (fun x19 hf => ?_)
  refine mg_iload_n C rfl rfl ?_
  refine mk_new C rfl rfl rfl wo_in7 wo_it7 dfl_7 hRm (Nat.le_of_ble_eq_true rfl) (Nat.le_of_ble_eq_true rfl) (by omega) hf (fun c20 hf => ?_)
  show mG _ _ _ 9 786 _ _ _ (_, _, _, (n + 9, _))
  refine mg_dup C rfl rfl ?_
  refine mk_cN (M' := qX7_init) (d' := d - 1) (mc' := 0) (ms' := 0) (m' := n + 9) (host := "CloudTakes") C rfl (by decide) aX7_init iX7_init rfl rfl hRm (by omega) (by decide) (Nat.le_of_ble_eq_true rfl) (Nat.le_of_ble_eq_true rfl) rfl rfl (Nat.le_of_ble_eq_true rfl) hf (fun hs => uX7_init (by omega) (by omega) hs) (fun c21 hf => ?_)
  show mG _ _ _ 9 786 _ _ _ (_, _, _, (n + 9, _))
  refine mk_tR (ti := 4) C rfl rfl rfl hf (fun c22 hf => ?_)
  refine mg_iinc (v := 2) (lv' := [(0, .ref v0), (1, .int (2 : Int32))]) C rfl (Nat.le_of_ble_eq_true rfl) rfl (by decide) rfl ?_
  refine mg_goto C rfl ?_
  refine mg_iload_n C rfl rfl ?_
  refine mg_bipush (v := 8) C rfl (by decide) ?_
  refine mg_icmp_ge C rfl (fun h => absurd h (by decide)) (fun _ => ?_)
  refine mg_aload_n C rfl rfl ?_
  refine mk_gR C rfl rfl rfl (by decide) hf (fun x23 hf => ?_)
  refine mg_iload_n C rfl rfl ?_
  refine mk_new C rfl rfl rfl wo_in7 wo_it7 dfl_7 hRm (Nat.le_of_ble_eq_true rfl) (Nat.le_of_ble_eq_true rfl) (by omega) hf (fun c24 hf => ?_)
  show mG _ _ _ 10 792 _ _ _ (_, _, _, (n + 10, _))
  refine mg_dup C rfl rfl ?_
  refine mk_cN (M' := qX7_init) (d' := d - 1) (mc' := 0) (ms' := 0) (m' := n + 10) (host := "CloudTakes") C rfl (by decide) aX7_init iX7_init rfl rfl hRm (by omega) (by decide) (Nat.le_of_ble_eq_true rfl) (Nat.le_of_ble_eq_true rfl) rfl rfl (Nat.le_of_ble_eq_true rfl) hf (fun hs => uX7_init (by omega) (by omega) hs) (fun c25 hf => ?_)
  show mG _ _ _ 10 792 _ _ _ (_, _, _, (n + 10, _))
  refine mk_tR (ti := 4) C rfl rfl rfl hf (fun c26 hf => ?_)
  refine mg_iinc (v := 3) (lv' := [(0, .ref v0), (1, .int (3 : Int32))]) C rfl (Nat.le_of_ble_eq_true rfl) rfl (by decide) rfl ?_
  refine mg_goto C rfl ?_
  refine mg_iload_n C rfl rfl ?_
  refine mg_bipush (v := 8) C rfl (by decide) ?_
  refine mg_icmp_ge C rfl (fun h => absurd h (by decide)) (fun _ => ?_)
  refine mg_aload_n C rfl rfl ?_
  refine mk_gR C rfl rfl rfl (by decide) hf (fun x27 hf => ?_)
  refine mg_iload_n C rfl rfl ?_
  refine mk_new C rfl rfl rfl wo_in7 wo_it7 dfl_7 hRm (Nat.le_of_ble_eq_true rfl) (Nat.le_of_ble_eq_true rfl) (by omega) hf (fun c28 hf => ?_)
  show mG _ _ _ 11 798 _ _ _ (_, _, _, (n + 11, _))
  refine mg_dup C rfl rfl ?_
  refine mk_cN (M' := qX7_init) (d' := d - 1) (mc' := 0) (ms' := 0) (m' := n + 11) (host := "CloudTakes") C rfl (by decide) aX7_init iX7_init rfl rfl hRm (by omega) (by decide) (Nat.le_of_ble_eq_true rfl) (Nat.le_of_ble_eq_true rfl) rfl rfl (Nat.le_of_ble_eq_true rfl) hf (fun hs => uX7_init (by omega) (by omega) hs) (fun c29 hf => ?_)
  show mG _ _ _ 11 798 _ _ _ (_, _, _, (n + 11, _))
  refine mk_tR (ti := 4) C rfl rfl rfl hf (fun c30 hf => ?_)
  refine mg_iinc (v := 4) (lv' := [(0, .ref v0), (1, .int (4 : Int32))]) C rfl (Nat.le_of_ble_eq_true rfl) rfl (by decide) rfl ?_
  refine mg_goto C rfl ?_
  refine mg_iload_n C rfl rfl ?_
  refine mg_bipush (v := 8) C rfl (by decide) ?_
  refine mg_icmp_ge C rfl (fun h => absurd h (by decide)) (fun _ => ?_)
  refine mg_aload_n C rfl rfl ?_
  refine mk_gR C rfl rfl rfl (by decide) hf (fun x31 hf => ?_)
  refine mg_iload_n C rfl rfl ?_
  refine mk_new C rfl rfl rfl wo_in7 wo_it7 dfl_7 hRm (Nat.le_of_ble_eq_true rfl) (Nat.le_of_ble_eq_true rfl) (by omega) hf (fun c32 hf => ?_)
  show mG _ _ _ 12 804 _ _ _ (_, _, _, (n + 12, _))
  refine mg_dup C rfl rfl ?_
  refine mk_cN (M' := qX7_init) (d' := d - 1) (mc' := 0) (ms' := 0) (m' := n + 12) (host := "CloudTakes") C rfl (by decide) aX7_init iX7_init rfl rfl hRm (by omega) (by decide) (Nat.le_of_ble_eq_true rfl) (Nat.le_of_ble_eq_true rfl) rfl rfl (Nat.le_of_ble_eq_true rfl) hf (fun hs => uX7_init (by omega) (by omega) hs) (fun c33 hf => ?_)
  show mG _ _ _ 12 804 _ _ _ (_, _, _, (n + 12, _))
  refine mk_tR (ti := 4) C rfl rfl rfl hf (fun c34 hf => ?_)
  refine mg_iinc (v := 5) (lv' := [(0, .ref v0), (1, .int (5 : Int32))]) C rfl (Nat.le_of_ble_eq_true rfl) rfl (by decide) rfl ?_
  refine mg_goto C rfl ?_
  refine mg_iload_n C rfl rfl ?_
  refine mg_bipush (v := 8) C rfl (by decide) ?_
  refine mg_icmp_ge C rfl (fun h => absurd h (by decide)) (fun _ => ?_)
  refine mg_aload_n C rfl rfl ?_
  refine mk_gR C rfl rfl rfl (by decide) hf (fun x35 hf => ?_)
  refine mg_iload_n C rfl rfl ?_
  refine mk_new C rfl rfl rfl wo_in7 wo_it7 dfl_7 hRm (Nat.le_of_ble_eq_true rfl) (Nat.le_of_ble_eq_true rfl) (by omega) hf (fun c36 hf => ?_)
  show mG _ _ _ 13 810 _ _ _ (_, _, _, (n + 13, _))
  refine mg_dup C rfl rfl ?_
  refine mk_cN (M' := qX7_init) (d' := d - 1) (mc' := 0) (ms' := 0) (m' := n + 13) (host := "CloudTakes") C rfl (by decide) aX7_init iX7_init rfl rfl hRm (by omega) (by decide) (Nat.le_of_ble_eq_true rfl) (Nat.le_of_ble_eq_true rfl) rfl rfl (Nat.le_of_ble_eq_true rfl) hf (fun hs => uX7_init (by omega) (by omega) hs) (fun c37 hf => ?_)
  show mG _ _ _ 13 810 _ _ _ (_, _, _, (n + 13, _))
  refine mk_tR (ti := 4) C rfl rfl rfl hf (fun c38 hf => ?_)
  refine mg_iinc (v := 6) (lv' := [(0, .ref v0), (1, .int (6 : Int32))]) C rfl (Nat.le_of_ble_eq_true rfl) rfl (by decide) rfl ?_
  refine mg_goto C rfl ?_
  refine mg_iload_n C rfl rfl ?_
  refine mg_bipush (v := 8) C rfl (by decide) ?_
  refine mg_icmp_ge C rfl (fun h => absurd h (by decide)) (fun _ => ?_)
  refine mg_aload_n C rfl rfl ?_
  refine mk_gR C rfl rfl rfl (by decide) hf (fun x39 hf => ?_)
  refine mg_iload_n C rfl rfl ?_
  refine mk_new C rfl rfl rfl wo_in7 wo_it7 dfl_7 hRm (Nat.le_of_ble_eq_true rfl) (Nat.le_of_ble_eq_true rfl) (by omega) hf (fun c40 hf => ?_)
  show mG _ _ _ 14 816 _ _ _ (_, _, _, (n + 14, _))
  refine mg_dup C rfl rfl ?_
  refine mk_cN (M' := qX7_init) (d' := d - 1) (mc' := 0) (ms' := 0) (m' := n + 14) (host := "CloudTakes") C rfl (by decide) aX7_init iX7_init rfl rfl hRm (by omega) (by decide) (Nat.le_of_ble_eq_true rfl) (Nat.le_of_ble_eq_true rfl) rfl rfl (Nat.le_of_ble_eq_true rfl) hf (fun hs => uX7_init (by omega) (by omega) hs) (fun c41 hf => ?_)
  show mG _ _ _ 14 816 _ _ _ (_, _, _, (n + 14, _))
  refine mk_tR (ti := 4) C rfl rfl rfl hf (fun c42 hf => ?_)
  refine mg_iinc (v := 7) (lv' := [(0, .ref v0), (1, .int (7 : Int32))]) C rfl (Nat.le_of_ble_eq_true rfl) rfl (by decide) rfl ?_
  refine mg_goto C rfl ?_
  refine mg_iload_n C rfl rfl ?_
  refine mg_bipush (v := 8) C rfl (by decide) ?_
  refine mg_icmp_ge C rfl (fun h => absurd h (by decide)) (fun _ => ?_)
  refine mg_aload_n C rfl rfl ?_
  refine mk_gR C rfl rfl rfl (by decide) hf (fun x43 hf => ?_)
  refine mg_iload_n C rfl rfl ?_
  refine mk_new C rfl rfl rfl wo_in7 wo_it7 dfl_7 hRm (Nat.le_of_ble_eq_true rfl) (Nat.le_of_ble_eq_true rfl) (by omega) hf (fun c44 hf => ?_)
  show mG _ _ _ 15 822 _ _ _ (_, _, _, (n + 15, _))
  refine mg_dup C rfl rfl ?_
  refine mk_cN (M' := qX7_init) (d' := d - 1) (mc' := 0) (ms' := 0) (m' := n + 15) (host := "CloudTakes") C rfl (by decide) aX7_init iX7_init rfl rfl hRm (by omega) (by decide) (Nat.le_of_ble_eq_true rfl) (Nat.le_of_ble_eq_true rfl) rfl rfl (Nat.le_of_ble_eq_true rfl) hf (fun hs => uX7_init (by omega) (by omega) hs) (fun c45 hf => ?_)
  show mG _ _ _ 15 822 _ _ _ (_, _, _, (n + 15, _))
  refine mk_tR (ti := 4) C rfl rfl rfl hf (fun c46 hf => ?_)
  refine mg_iinc (v := 8) (lv' := [(0, .ref v0), (1, .int (8 : Int32))]) C rfl (Nat.le_of_ble_eq_true rfl) rfl (by decide) rfl ?_
  refine mg_goto C rfl ?_
  refine mg_iload_n C rfl rfl ?_
  refine mg_bipush (v := 8) C rfl (by decide) ?_
  refine mg_icmp_ge C rfl (fun _ => ?_) (fun h => absurd (by decide) h)
  exact mk_return C rfl (Nat.le_of_ble_eq_true rfl) (Nat.le_of_ble_eq_true rfl) rfl hf
def nX10_init (n : Nat) (v0 : Nat) (c : mm_C) : Option mm_C :=
  Option.bind (pI c v0 10 0 (0 : Int32)) fun c1 => Option.bind (pI c1 v0 10 1 (0 : Int32)) fun c2 => Option.bind (mkA c2 n .byte 700) fun c3 => Option.bind (pR c3 v0 10 2 n) fun c4 => Option.bind (pI c4 v0 10 3 (0 : Int32)) fun c5 => Option.bind (pI c5 v0 10 4 (0 : Int32)) fun c6 => some c6
set_option maxRecDepth 100000 in
set_option maxHeartbeats 4000000 in
theorem uX10_init {Z : mm_Z} {d n : Nat} (hd : 1 ≤ d) (hn : n + 1 < 1000000) {v0 : Nat} {c : mm_C} (hs : (nX10_init n v0 c).isSome = true) : mC Z qX10_init d 1 700 [.ref v0] (n, c) (mB (n + 1) (nX10_init n v0 c)) := by
  refine mC_of gX10_init (by decide +kernel) (Nat.le_of_ble_eq_true rfl) fun X C hRm => ?_
  have hf := hB_mB (n + 1) hs
  generalize mB (n + 1) (nX10_init n v0 c) = Q at hf ⊢
  unfold nX10_init at hf
  show mG _ _ _ 0 0 _ _ _ (0, [(0, .ref v0)], [], (n, c))
  refine mg_aload_n C rfl rfl ?_
  refine mg_objInit C rfl rfl wo_inst wo_code hRm (by omega) (Nat.le_of_ble_eq_true rfl) ?_
  refine mg_aload_n C rfl rfl ?_
  refine mg_iconst (v := 0) C rfl (by decide) ?_
  refine mk_pI C rfl rfl rfl (by decide) rfl rfl rfl hf (fun c1 hf => ?_)
  refine mg_aload_n C rfl rfl ?_
  refine mg_iconst (v := 0) C rfl (by decide) ?_
  refine mk_pI C rfl rfl rfl (by decide) rfl rfl rfl hf (fun c2 hf => ?_)
  refine mg_aload_n C rfl rfl ?_
  refine mg_sipush (v := 700) C rfl (by decide) ?_
  refine mk_newI (N := 700) (ti := 2) C rfl rfl rfl wo_arbyte (by decide) (by decide) (by decide) (by decide) hRm (Nat.le_of_ble_eq_true rfl) (Nat.le_of_ble_eq_true rfl) (by omega) hf (fun c3 hf => ?_)
  show mG _ _ _ 1 700 _ _ _ (_, _, _, (n + 1, _))
  refine mk_pRf C rfl rfl rfl (by decide) rfl rfl rfl rfl rfl hf (fun c4 hf => ?_)
  refine mg_aload_n C rfl rfl ?_
  refine mg_iconst (v := 0) C rfl (by decide) ?_
  refine mk_pI C rfl rfl rfl (by decide) rfl rfl rfl hf (fun c5 hf => ?_)
  refine mg_aload_n C rfl rfl ?_
  refine mg_iconst (v := 0) C rfl (by decide) ?_
  refine mk_pI C rfl rfl rfl (by decide) rfl rfl rfl hf (fun c6 hf => ?_)
  exact mk_return C rfl (Nat.le_of_ble_eq_true rfl) (Nat.le_of_ble_eq_true rfl) rfl hf
def nX2_init (n : Nat) (v0 : Nat) (v1 : Nat) (c : mm_C) : Option mm_C :=
  Option.bind (pI c v0 2 0 (-1 : Int32)) fun c1 => Option.bind (pI c1 v0 2 1 (0 : Int32)) fun c2 => Option.bind (mkO c2 n 10) fun c3 => Option.bind (nX10_init (n + 1) n c3) fun c4 => Option.bind (pR c4 v0 2 2 n) fun c5 => Option.bind (pI c5 v0 2 4 (0 : Int32)) fun c6 => Option.bind (pI c6 v0 2 5 (0 : Int32)) fun c7 => Option.bind (pI c7 v0 2 6 (0 : Int32)) fun c8 => Option.bind (pR c8 v0 2 3 v1) fun c9 => some c9
set_option maxRecDepth 100000 in
set_option maxHeartbeats 4000000 in
theorem uX2_init {Z : mm_Z} {d n : Nat} (hd : 2 ≤ d) (hn : n + 2 < 1000000) {v0 : Nat} {v1 : Nat} {c : mm_C} (hs : (nX2_init n v0 v1 c).isSome = true) : mC Z qX2_init d 2 705 [.ref v0, .ref v1] (n, c) (mB (n + 2) (nX2_init n v0 v1 c)) := by
  refine mC_of gX2_init (by decide +kernel) (Nat.le_of_ble_eq_true rfl) fun X C hRm => ?_
  have hf := hB_mB (n + 2) hs
  generalize mB (n + 2) (nX2_init n v0 v1 c) = Q at hf ⊢
  unfold nX2_init at hf
  show mG _ _ _ 0 0 _ _ _ (0, [(0, .ref v0), (1, .ref v1)], [], (n, c))
  refine mg_aload_n C rfl rfl ?_
  refine mg_objInit C rfl rfl wo_inst wo_code hRm (by omega) (Nat.le_of_ble_eq_true rfl) ?_
  refine mg_aload_n C rfl rfl ?_
  refine mg_iconst (v := (-1)) C rfl (by decide) ?_
  refine mk_pI C rfl rfl rfl (by decide) rfl rfl rfl hf (fun c1 hf => ?_)
  refine mg_aload_n C rfl rfl ?_
  refine mg_iconst (v := 0) C rfl (by decide) ?_
  refine mk_pI C rfl rfl rfl (by decide) rfl rfl rfl hf (fun c2 hf => ?_)
  refine mg_aload_n C rfl rfl ?_
  refine mk_new C rfl rfl rfl wo_in10 wo_it10 dfl_10 hRm (Nat.le_of_ble_eq_true rfl) (Nat.le_of_ble_eq_true rfl) (by omega) hf (fun c3 hf => ?_)
  show mG _ _ _ 1 5 _ _ _ (_, _, _, (n + 1, _))
  refine mg_dup C rfl rfl ?_
  refine mk_cN (M' := qX10_init) (d' := d - 1) (mc' := 1) (ms' := 700) (m' := n + 2) (host := "CloudTakes") C rfl (by decide) aX10_init iX10_init rfl rfl hRm (by omega) (by decide) (Nat.le_of_ble_eq_true rfl) (Nat.le_of_ble_eq_true rfl) rfl rfl (Nat.le_of_ble_eq_true rfl) hf (fun hs => uX10_init (by omega) (by omega) hs) (fun c4 hf => ?_)
  show mG _ _ _ 2 705 _ _ _ (_, _, _, (n + 2, _))
  refine mk_pRf C rfl rfl rfl (by decide) rfl rfl rfl rfl rfl hf (fun c5 hf => ?_)
  refine mg_aload_n C rfl rfl ?_
  refine mg_iconst (v := 0) C rfl (by decide) ?_
  refine mk_pI C rfl rfl rfl (by decide) rfl rfl rfl hf (fun c6 hf => ?_)
  refine mg_aload_n C rfl rfl ?_
  refine mg_iconst (v := 0) C rfl (by decide) ?_
  refine mk_pI C rfl rfl rfl (by decide) rfl rfl rfl hf (fun c7 hf => ?_)
  refine mg_aload_n C rfl rfl ?_
  refine mg_iconst (v := 0) C rfl (by decide) ?_
  refine mk_pI C rfl rfl rfl (by decide) rfl rfl rfl hf (fun c8 hf => ?_)
  refine mg_aload_n C rfl rfl ?_
  refine mg_aload_n C rfl rfl ?_
  refine mk_pR C rfl rfl rfl (by decide) rfl rfl rfl hf (fun c9 hf => ?_)
  exact mk_return C rfl (Nat.le_of_ble_eq_true rfl) (Nat.le_of_ble_eq_true rfl) rfl hf
def nX1_init (n : Nat) (v0 : Nat) (v1 : Nat) (v2 : Nat) (c : mm_C) : Option mm_C :=
  Option.bind (mkA c n .int 481) fun c1 => Option.bind (pR c1 v0 1 0 n) fun c2 => Option.bind (mkA c2 (n + 1) .int 480) fun c3 => Option.bind (pR c3 v0 1 1 (n + 1)) fun c4 => Option.bind (pI c4 v0 1 4 (0 : Int32)) fun c5 => Option.bind (pR c5 v0 1 2 v1) fun c6 => Option.bind (pR c6 v0 1 3 v2) fun c7 => some c7
set_option maxRecDepth 100000 in
set_option maxHeartbeats 4000000 in
theorem uX1_init {Z : mm_Z} {d n : Nat} (hd : 1 ≤ d) (hn : n + 2 < 1000000) {v0 : Nat} {v1 : Nat} {v2 : Nat} {c : mm_C} (hs : (nX1_init n v0 v1 v2 c).isSome = true) : mC Z qX1_init d 2 961 [.ref v0, .ref v1, .ref v2] (n, c) (mB (n + 2) (nX1_init n v0 v1 v2 c)) := by
  refine mC_of gX1_init (by decide +kernel) (Nat.le_of_ble_eq_true rfl) fun X C hRm => ?_
  have hf := hB_mB (n + 2) hs
  generalize mB (n + 2) (nX1_init n v0 v1 v2 c) = Q at hf ⊢
  unfold nX1_init at hf
  show mG _ _ _ 0 0 _ _ _ (0, [(0, .ref v0), (1, .ref v1), (2, .ref v2)], [], (n, c))
  refine mg_aload_n C rfl rfl ?_
  refine mg_objInit C rfl rfl wo_inst wo_code hRm (by omega) (Nat.le_of_ble_eq_true rfl) ?_
  refine mg_aload_n C rfl rfl ?_
  refine mg_sipush (v := 481) C rfl (by decide) ?_
  refine mk_newI (N := 481) (ti := 0) C rfl rfl rfl wo_arint (by decide) (by decide) (by decide) (by decide) hRm (Nat.le_of_ble_eq_true rfl) (Nat.le_of_ble_eq_true rfl) (by omega) hf (fun c1 hf => ?_)
  show mG _ _ _ 1 481 _ _ _ (_, _, _, (n + 1, _))
  refine mk_pRf C rfl rfl rfl (by decide) rfl rfl rfl rfl rfl hf (fun c2 hf => ?_)
  refine mg_aload_n C rfl rfl ?_
  refine mg_sipush (v := 480) C rfl (by decide) ?_
  refine mk_newI (N := 480) (ti := 0) C rfl rfl rfl wo_arint (by decide) (by decide) (by decide) (by decide) hRm (Nat.le_of_ble_eq_true rfl) (Nat.le_of_ble_eq_true rfl) (by omega) hf (fun c3 hf => ?_)
  show mG _ _ _ 2 961 _ _ _ (_, _, _, (n + 2, _))
  refine mk_pRf C rfl rfl rfl (by decide) rfl rfl rfl rfl rfl hf (fun c4 hf => ?_)
  refine mg_aload_n C rfl rfl ?_
  refine mg_iconst (v := 0) C rfl (by decide) ?_
  refine mk_pI C rfl rfl rfl (by decide) rfl rfl rfl hf (fun c5 hf => ?_)
  refine mg_aload_n C rfl rfl ?_
  refine mg_aload_n C rfl rfl ?_
  refine mk_pR C rfl rfl rfl (by decide) rfl rfl rfl hf (fun c6 hf => ?_)
  refine mg_aload_n C rfl rfl ?_
  refine mg_aload_n C rfl rfl ?_
  refine mk_pR C rfl rfl rfl (by decide) rfl rfl rfl hf (fun c7 hf => ?_)
  exact mk_return C rfl (Nat.le_of_ble_eq_true rfl) (Nat.le_of_ble_eq_true rfl) rfl hf
