/- needs: 15.acall 15.fun 15.hctor 17.c1 -/
def nX5_init (n : Nat) (v0 : Nat) (c : mm_C) : Option mm_C :=
  Option.bind (mkO c n 9) fun c1 => Option.bind (nX9_init (n + 1) n c1) fun c2 => Option.bind (pR c2 v0 5 0 n) fun c3 => Option.bind (mkR c3 (n + 4) "CloudTakes$State" 40) fun c4 => Option.bind (pR c4 v0 5 1 (n + 4)) fun c5 => Option.bind (pI c5 v0 5 2 (0 : Int32)) fun c6 => Option.bind (mkA c6 (n + 5) .int 8) fun c7 => Option.bind (pR c7 v0 5 3 (n + 5)) fun c8 => Option.bind (mkA c8 (n + 6) .int 8) fun c9 => Option.bind (pR c9 v0 5 4 (n + 6)) fun c10 => Option.bind (mkA c10 (n + 7) .boolean 8) fun c11 => Option.bind (pR c11 v0 5 5 (n + 7)) fun c12 => Option.bind (pI c12 v0 5 6 (0 : Int32)) fun c13 => Option.bind (mkA c13 (n + 8) .int 3) fun c14 => Option.bind (pR c14 v0 5 7 (n + 8)) fun c15 => Option.bind (gR c15 v0 5 1) fun x16 => Option.bind (mkO c15 (n + 9) 9) fun c17 => Option.bind (nX9_init (n + 10) (n + 9) c17) fun c18 => Option.bind (tR "CloudTakes$State" 9 c18 x16 (0 : Int32) (n + 9)) fun c19 => Option.bind (gR c19 v0 5 1) fun x20 => Option.bind (mkO c19 (n + 13) 9) fun c21 => Option.bind (nX9_init (n + 14) (n + 13) c21) fun c22 => Option.bind (tR "CloudTakes$State" 9 c22 x20 (1 : Int32) (n + 13)) fun c23 => Option.bind (gR c23 v0 5 1) fun x24 => Option.bind (mkO c23 (n + 17) 9) fun c25 => Option.bind (nX9_init (n + 18) (n + 17) c25) fun c26 => Option.bind (tR "CloudTakes$State" 9 c26 x24 (2 : Int32) (n + 17)) fun c27 => Option.bind (gR c27 v0 5 1) fun x28 => Option.bind (mkO c27 (n + 21) 9) fun c29 => Option.bind (nX9_init (n + 22) (n + 21) c29) fun c30 => Option.bind (tR "CloudTakes$State" 9 c30 x28 (3 : Int32) (n + 21)) fun c31 => Option.bind (gR c31 v0 5 1) fun x32 => Option.bind (mkO c31 (n + 25) 9) fun c33 => Option.bind (nX9_init (n + 26) (n + 25) c33) fun c34 => Option.bind (tR "CloudTakes$State" 9 c34 x32 (4 : Int32) (n + 25)) fun c35 => Option.bind (gR c35 v0 5 1) fun x36 => Option.bind (mkO c35 (n + 29) 9) fun c37 => Option.bind (nX9_init (n + 30) (n + 29) c37) fun c38 => Option.bind (tR "CloudTakes$State" 9 c38 x36 (5 : Int32) (n + 29)) fun c39 => Option.bind (gR c39 v0 5 1) fun x40 => Option.bind (mkO c39 (n + 33) 9) fun c41 => Option.bind (nX9_init (n + 34) (n + 33) c41) fun c42 => Option.bind (tR "CloudTakes$State" 9 c42 x40 (6 : Int32) (n + 33)) fun c43 => Option.bind (gR c43 v0 5 1) fun x44 => Option.bind (mkO c43 (n + 37) 9) fun c45 => Option.bind (nX9_init (n + 38) (n + 37) c45) fun c46 => Option.bind (tR "CloudTakes$State" 9 c46 x44 (7 : Int32) (n + 37)) fun c47 => Option.bind (gR c47 v0 5 1) fun x48 => Option.bind (mkO c47 (n + 41) 9) fun c49 => Option.bind (nX9_init (n + 42) (n + 41) c49) fun c50 => Option.bind (tR "CloudTakes$State" 9 c50 x48 (8 : Int32) (n + 41)) fun c51 => Option.bind (gR c51 v0 5 1) fun x52 => Option.bind (mkO c51 (n + 45) 9) fun c53 => Option.bind (nX9_init (n + 46) (n + 45) c53) fun c54 => Option.bind (tR "CloudTakes$State" 9 c54 x52 (9 : Int32) (n + 45)) fun c55 => Option.bind (gR c55 v0 5 1) fun x56 => Option.bind (mkO c55 (n + 49) 9) fun c57 => Option.bind (nX9_init (n + 50) (n + 49) c57) fun c58 => Option.bind (tR "CloudTakes$State" 9 c58 x56 (10 : Int32) (n + 49)) fun c59 => Option.bind (gR c59 v0 5 1) fun x60 => Option.bind (mkO c59 (n + 53) 9) fun c61 => Option.bind (nX9_init (n + 54) (n + 53) c61) fun c62 => Option.bind (tR "CloudTakes$State" 9 c62 x60 (11 : Int32) (n + 53)) fun c63 => Option.bind (gR c63 v0 5 1) fun x64 => Option.bind (mkO c63 (n + 57) 9) fun c65 => Option.bind (nX9_init (n + 58) (n + 57) c65) fun c66 => Option.bind (tR "CloudTakes$State" 9 c66 x64 (12 : Int32) (n + 57)) fun c67 => Option.bind (gR c67 v0 5 1) fun x68 => Option.bind (mkO c67 (n + 61) 9) fun c69 => Option.bind (nX9_init (n + 62) (n + 61) c69) fun c70 => Option.bind (tR "CloudTakes$State" 9 c70 x68 (13 : Int32) (n + 61)) fun c71 => Option.bind (gR c71 v0 5 1) fun x72 => Option.bind (mkO c71 (n + 65) 9) fun c73 => Option.bind (nX9_init (n + 66) (n + 65) c73) fun c74 => Option.bind (tR "CloudTakes$State" 9 c74 x72 (14 : Int32) (n + 65)) fun c75 => Option.bind (gR c75 v0 5 1) fun x76 => Option.bind (mkO c75 (n + 69) 9) fun c77 => Option.bind (nX9_init (n + 70) (n + 69) c77) fun c78 => Option.bind (tR "CloudTakes$State" 9 c78 x76 (15 : Int32) (n + 69)) fun c79 => Option.bind (gR c79 v0 5 1) fun x80 => Option.bind (mkO c79 (n + 73) 9) fun c81 => Option.bind (nX9_init (n + 74) (n + 73) c81) fun c82 => Option.bind (tR "CloudTakes$State" 9 c82 x80 (16 : Int32) (n + 73)) fun c83 => Option.bind (gR c83 v0 5 1) fun x84 => Option.bind (mkO c83 (n + 77) 9) fun c85 => Option.bind (nX9_init (n + 78) (n + 77) c85) fun c86 => Option.bind (tR "CloudTakes$State" 9 c86 x84 (17 : Int32) (n + 77)) fun c87 => Option.bind (gR c87 v0 5 1) fun x88 => Option.bind (mkO c87 (n + 81) 9) fun c89 => Option.bind (nX9_init (n + 82) (n + 81) c89) fun c90 => Option.bind (tR "CloudTakes$State" 9 c90 x88 (18 : Int32) (n + 81)) fun c91 => Option.bind (gR c91 v0 5 1) fun x92 => Option.bind (mkO c91 (n + 85) 9) fun c93 => Option.bind (nX9_init (n + 86) (n + 85) c93) fun c94 => Option.bind (tR "CloudTakes$State" 9 c94 x92 (19 : Int32) (n + 85)) fun c95 => Option.bind (gR c95 v0 5 1) fun x96 => Option.bind (mkO c95 (n + 89) 9) fun c97 => Option.bind (nX9_init (n + 90) (n + 89) c97) fun c98 => Option.bind (tR "CloudTakes$State" 9 c98 x96 (20 : Int32) (n + 89)) fun c99 => Option.bind (gR c99 v0 5 1) fun x100 => Option.bind (mkO c99 (n + 93) 9) fun c101 => Option.bind (nX9_init (n + 94) (n + 93) c101) fun c102 => Option.bind (tR "CloudTakes$State" 9 c102 x100 (21 : Int32) (n + 93)) fun c103 => Option.bind (gR c103 v0 5 1) fun x104 => Option.bind (mkO c103 (n + 97) 9) fun c105 => Option.bind (nX9_init (n + 98) (n + 97) c105) fun c106 => Option.bind (tR "CloudTakes$State" 9 c106 x104 (22 : Int32) (n + 97)) fun c107 => Option.bind (gR c107 v0 5 1) fun x108 => Option.bind (mkO c107 (n + 101) 9) fun c109 => Option.bind (nX9_init (n + 102) (n + 101) c109) fun c110 => Option.bind (tR "CloudTakes$State" 9 c110 x108 (23 : Int32) (n + 101)) fun c111 => Option.bind (gR c111 v0 5 1) fun x112 => Option.bind (mkO c111 (n + 105) 9) fun c113 => Option.bind (nX9_init (n + 106) (n + 105) c113) fun c114 => Option.bind (tR "CloudTakes$State" 9 c114 x112 (24 : Int32) (n + 105)) fun c115 => Option.bind (gR c115 v0 5 1) fun x116 => Option.bind (mkO c115 (n + 109) 9) fun c117 => Option.bind (nX9_init (n + 110) (n + 109) c117) fun c118 => Option.bind (tR "CloudTakes$State" 9 c118 x116 (25 : Int32) (n + 109)) fun c119 => Option.bind (gR c119 v0 5 1) fun x120 => Option.bind (mkO c119 (n + 113) 9) fun c121 => Option.bind (nX9_init (n + 114) (n + 113) c121) fun c122 => Option.bind (tR "CloudTakes$State" 9 c122 x120 (26 : Int32) (n + 113)) fun c123 => Option.bind (gR c123 v0 5 1) fun x124 => Option.bind (mkO c123 (n + 117) 9) fun c125 => Option.bind (nX9_init (n + 118) (n + 117) c125) fun c126 => Option.bind (tR "CloudTakes$State" 9 c126 x124 (27 : Int32) (n + 117)) fun c127 => Option.bind (gR c127 v0 5 1) fun x128 => Option.bind (mkO c127 (n + 121) 9) fun c129 => Option.bind (nX9_init (n + 122) (n + 121) c129) fun c130 => Option.bind (tR "CloudTakes$State" 9 c130 x128 (28 : Int32) (n + 121)) fun c131 => Option.bind (gR c131 v0 5 1) fun x132 => Option.bind (mkO c131 (n + 125) 9) fun c133 => Option.bind (nX9_init (n + 126) (n + 125) c133) fun c134 => Option.bind (tR "CloudTakes$State" 9 c134 x132 (29 : Int32) (n + 125)) fun c135 => Option.bind (gR c135 v0 5 1) fun x136 => Option.bind (mkO c135 (n + 129) 9) fun c137 => Option.bind (nX9_init (n + 130) (n + 129) c137) fun c138 => Option.bind (tR "CloudTakes$State" 9 c138 x136 (30 : Int32) (n + 129)) fun c139 => Option.bind (gR c139 v0 5 1) fun x140 => Option.bind (mkO c139 (n + 133) 9) fun c141 => Option.bind (nX9_init (n + 134) (n + 133) c141) fun c142 => Option.bind (tR "CloudTakes$State" 9 c142 x140 (31 : Int32) (n + 133)) fun c143 => Option.bind (gR c143 v0 5 1) fun x144 => Option.bind (mkO c143 (n + 137) 9) fun c145 => Option.bind (nX9_init (n + 138) (n + 137) c145) fun c146 => Option.bind (tR "CloudTakes$State" 9 c146 x144 (32 : Int32) (n + 137)) fun c147 => Option.bind (gR c147 v0 5 1) fun x148 => Option.bind (mkO c147 (n + 141) 9) fun c149 => Option.bind (nX9_init (n + 142) (n + 141) c149) fun c150 => Option.bind (tR "CloudTakes$State" 9 c150 x148 (33 : Int32) (n + 141)) fun c151 => Option.bind (gR c151 v0 5 1) fun x152 => Option.bind (mkO c151 (n + 145) 9) fun c153 => Option.bind (nX9_init (n + 146) (n + 145) c153) fun c154 => Option.bind (tR "CloudTakes$State" 9 c154 x152 (34 : Int32) (n + 145)) fun c155 => Option.bind (gR c155 v0 5 1) fun x156 => Option.bind (mkO c155 (n + 149) 9) fun c157 => Option.bind (nX9_init (n + 150) (n + 149) c157) fun c158 => Option.bind (tR "CloudTakes$State" 9 c158 x156 (35 : Int32) (n + 149)) fun c159 => Option.bind (gR c159 v0 5 1) fun x160 => Option.bind (mkO c159 (n + 153) 9) fun c161 => Option.bind (nX9_init (n + 154) (n + 153) c161) fun c162 => Option.bind (tR "CloudTakes$State" 9 c162 x160 (36 : Int32) (n + 153)) fun c163 => Option.bind (gR c163 v0 5 1) fun x164 => Option.bind (mkO c163 (n + 157) 9) fun c165 => Option.bind (nX9_init (n + 158) (n + 157) c165) fun c166 => Option.bind (tR "CloudTakes$State" 9 c166 x164 (37 : Int32) (n + 157)) fun c167 => Option.bind (gR c167 v0 5 1) fun x168 => Option.bind (mkO c167 (n + 161) 9) fun c169 => Option.bind (nX9_init (n + 162) (n + 161) c169) fun c170 => Option.bind (tR "CloudTakes$State" 9 c170 x168 (38 : Int32) (n + 161)) fun c171 => Option.bind (gR c171 v0 5 1) fun x172 => Option.bind (mkO c171 (n + 165) 9) fun c173 => Option.bind (nX9_init (n + 166) (n + 165) c173) fun c174 => Option.bind (tR "CloudTakes$State" 9 c174 x172 (39 : Int32) (n + 165)) fun c175 => some c175
set_option maxRecDepth 100000 in
set_option maxHeartbeats 4000000 in
theorem uX5_init {Z : mm_Z} {d n : Nat} (hd : 3 ≤ d) (hn : n + 169 < 1000000) {v0 : Nat} {c : mm_C} (hs : (nX5_init n v0 c).isSome = true) : mC Z qX5_init d 169 1420 [.ref v0] (n, c) (mB (n + 169) (nX5_init n v0 c)) := by
  refine mC_of gX5_init (by decide +kernel) (Nat.le_of_ble_eq_true rfl) fun X C hRm => ?_
  have hf := hB_mB (n + 169) hs
  generalize mB (n + 169) (nX5_init n v0 c) = Q at hf ⊢
  unfold nX5_init at hf
  show mG _ _ _ 0 0 _ _ _ (0, [(0, .ref v0)], [], (n, c))
  refine mg_aload_n C rfl rfl ?_
  refine mg_objInit C rfl rfl wo_inst wo_code hRm (by omega) (Nat.le_of_ble_eq_true rfl) ?_
  refine mg_aload_n C rfl rfl ?_
  refine mk_new C rfl rfl rfl wo_in9 wo_it9 dfl_9 hRm (Nat.le_of_ble_eq_true rfl) (Nat.le_of_ble_eq_true rfl) (by omega) hf (fun c1 hf => ?_)
  show mG _ _ _ 1 9 _ _ _ (_, _, _, (n + 1, _))
  refine mg_dup C rfl rfl ?_
  refine mk_cN (M' := qX9_init) (d' := d - 1) (mc' := 3) (ms' := 24) (m' := n + 4) (host := "CloudTakes") C rfl (by decide) aX9_init iX9_init rfl rfl hRm (by omega) (by decide) (Nat.le_of_ble_eq_true rfl) (Nat.le_of_ble_eq_true rfl) rfl rfl (Nat.le_of_ble_eq_true rfl) hf (fun hs => uX9_init (by omega) (by omega) hs) (fun c2 hf => ?_)
  show mG _ _ _ 4 33 _ _ _ (_, _, _, (n + 4, _))
  refine mk_pRf C rfl rfl rfl (by decide) rfl rfl rfl rfl rfl hf (fun c3 hf => ?_)
  refine mg_aload_n C rfl rfl ?_
  refine mg_bipush (v := 40) C rfl (by decide) ?_
  refine mk_newR (N := 40) (ti := 5) C rfl rfl (fun h => h.2.2.2.2.2.1) rfl (by decide) (by decide) (by decide) hRm (Nat.le_of_ble_eq_true rfl) (Nat.le_of_ble_eq_true rfl) (by omega) hf (fun c4 hf => ?_)
  show mG _ _ _ 5 73 _ _ _ (_, _, _, (n + 5, _))
  refine mk_pRf C rfl rfl rfl (by decide) rfl rfl rfl rfl rfl hf (fun c5 hf => ?_)
  refine mg_aload_n C rfl rfl ?_
  refine mg_iconst (v := 0) C rfl (by decide) ?_
  refine mk_pI C rfl rfl rfl (by decide) rfl rfl rfl hf (fun c6 hf => ?_)
  refine mg_aload_n C rfl rfl ?_
  refine mg_bipush (v := 8) C rfl (by decide) ?_
  refine mk_newI (N := 8) (ti := 0) C rfl rfl rfl wo_arint (by decide) (by decide) (by decide) (by decide) hRm (Nat.le_of_ble_eq_true rfl) (Nat.le_of_ble_eq_true rfl) (by omega) hf (fun c7 hf => ?_)
  show mG _ _ _ 6 81 _ _ _ (_, _, _, (n + 6, _))
  refine mk_pRf C rfl rfl rfl (by decide) rfl rfl rfl rfl rfl hf (fun c8 hf => ?_)
  refine mg_aload_n C rfl rfl ?_
  refine mg_bipush (v := 8) C rfl (by decide) ?_
  refine mk_newI (N := 8) (ti := 0) C rfl rfl rfl wo_arint (by decide) (by decide) (by decide) (by decide) hRm (Nat.le_of_ble_eq_true rfl) (Nat.le_of_ble_eq_true rfl) (by omega) hf (fun c9 hf => ?_)
  show mG _ _ _ 7 89 _ _ _ (_, _, _, (n + 7, _))
  refine mk_pRf C rfl rfl rfl (by decide) rfl rfl rfl rfl rfl hf (fun c10 hf => ?_)
  refine mg_aload_n C rfl rfl ?_
  refine mg_bipush (v := 8) C rfl (by decide) ?_
  refine mk_newI (N := 8) (ti := 3) C rfl rfl rfl wo_arboolean (by decide) (by decide) (by decide) (by decide) hRm (Nat.le_of_ble_eq_true rfl) (Nat.le_of_ble_eq_true rfl) (by omega) hf (fun c11 hf => ?_)
  show mG _ _ _ 8 97 _ _ _ (_, _, _, (n + 8, _))
  refine mk_pRf C rfl rfl rfl (by decide) rfl rfl rfl rfl rfl hf (fun c12 hf => ?_)
  refine mg_aload_n C rfl rfl ?_
  refine mg_iconst (v := 0) C rfl (by decide) ?_
  refine mk_pI C rfl rfl rfl (by decide) rfl rfl rfl hf (fun c13 hf => ?_)
  refine mg_aload_n C rfl rfl ?_
  refine mg_iconst (v := 3) C rfl (by decide) ?_
  refine mk_newI (N := 3) (ti := 0) C rfl rfl rfl wo_arint (by decide) (by decide) (by decide) (by decide) hRm (Nat.le_of_ble_eq_true rfl) (Nat.le_of_ble_eq_true rfl) (by omega) hf (fun c14 hf => ?_)
  show mG _ _ _ 9 100 _ _ _ (_, _, _, (n + 9, _))
  refine mk_pRf C rfl rfl rfl (by decide) rfl rfl rfl rfl rfl hf (fun c15 hf => ?_)
  refine mg_iconst (v := 0) C rfl (by decide) ?_
  refine mg_istore_n (lv' := [(0, .ref v0), (1, .int (0 : Int32))]) C rfl (Nat.le_of_ble_eq_true rfl) rfl ?_
  refine mg_iload_n C rfl rfl ?_
  refine mg_bipush (v := 40) C rfl (by decide) ?_
  refine mg_icmp_ge C rfl (fun h => absurd h (by decide)) (fun _ => ?_)
  refine mg_aload_n C rfl rfl ?_
  refine mk_gR C rfl rfl rfl (by decide) hf (fun x16 hf => ?_)
  refine mg_iload_n C rfl rfl ?_
  refine mk_new C rfl rfl rfl wo_in9 wo_it9 dfl_9 hRm (Nat.le_of_ble_eq_true rfl) (Nat.le_of_ble_eq_true rfl) (by omega) hf (fun c17 hf => ?_)
  show mG _ _ _ 10 109 _ _ _ (_, _, _, (n + 10, _))
  refine mg_dup C rfl rfl ?_
  refine mk_cN (M' := qX9_init) (d' := d - 1) (mc' := 3) (ms' := 24) (m' := n + 13) (host := "CloudTakes") C rfl (by decide) aX9_init iX9_init rfl rfl hRm (by omega) (by decide) (Nat.le_of_ble_eq_true rfl) (Nat.le_of_ble_eq_true rfl) rfl rfl (Nat.le_of_ble_eq_true rfl) hf (fun hs => uX9_init (by omega) (by omega) hs) (fun c18 hf => ?_)
  show mG _ _ _ 13 133 _ _ _ (_, _, _, (n + 13, _))
  refine mk_tR (ti := 5) C rfl rfl rfl hf (fun c19 hf => ?_)
  refine mg_iinc (v := 1) (lv' := [(0, .ref v0), (1, .int (1 : Int32))]) C rfl (Nat.le_of_ble_eq_true rfl) rfl (by decide) rfl ?_
  refine mg_goto C rfl ?_
  refine mg_iload_n C rfl rfl ?_
  refine mg_bipush (v := 40) C rfl (by decide) ?_
  refine mg_icmp_ge C rfl (fun h => absurd h (by decide)) (fun _ => ?_)
  refine mg_aload_n C rfl rfl ?_
  refine mk_gR C rfl rfl rfl (by decide) hf (fun x20 hf => ?_)
  refine mg_iload_n C rfl rfl ?_
  refine mk_new C rfl rfl rfl wo_in9 wo_it9 dfl_9 hRm (Nat.le_of_ble_eq_true rfl) (Nat.le_of_ble_eq_true rfl) (by omega) hf (fun c21 hf => ?_)
  show mG _ _ _ 14 142 _ _ _ (_, _, _, (n + 14, _))
  refine mg_dup C rfl rfl ?_
  refine mk_cN (M' := qX9_init) (d' := d - 1) (mc' := 3) (ms' := 24) (m' := n + 17) (host := "CloudTakes") C rfl (by decide) aX9_init iX9_init rfl rfl hRm (by omega) (by decide) (Nat.le_of_ble_eq_true rfl) (Nat.le_of_ble_eq_true rfl) rfl rfl (Nat.le_of_ble_eq_true rfl) hf (fun hs => uX9_init (by omega) (by omega) hs) (fun c22 hf => ?_)
  show mG _ _ _ 17 166 _ _ _ (_, _, _, (n + 17, _))
  refine mk_tR (ti := 5) C rfl rfl rfl hf (fun c23 hf => ?_)
  refine mg_iinc (v := 2) (lv' := [(0, .ref v0), (1, .int (2 : Int32))]) C rfl (Nat.le_of_ble_eq_true rfl) rfl (by decide) rfl ?_
  refine mg_goto C rfl ?_
  refine mg_iload_n C rfl rfl ?_
  refine mg_bipush (v := 40) C rfl (by decide) ?_
  refine mg_icmp_ge C rfl (fun h => absurd h (by decide)) (fun _ => ?_)
  refine mg_aload_n C rfl rfl ?_
  refine mk_gR C rfl rfl rfl (by decide) hf (fun x24 hf => ?_)
  refine mg_iload_n C rfl rfl ?_
  refine mk_new C rfl rfl rfl wo_in9 wo_it9 dfl_9 hRm (Nat.le_of_ble_eq_true rfl) (Nat.le_of_ble_eq_true rfl) (by omega) hf (fun c25 hf => ?_)
  show mG _ _ _ 18 175 _ _ _ (_, _, _, (n + 18, _))
  refine mg_dup C rfl rfl ?_
  refine mk_cN (M' := qX9_init) (d' := d - 1) (mc' := 3) (ms' := 24) (m' := n + 21) (host := "CloudTakes") C rfl (by decide) aX9_init iX9_init rfl rfl hRm (by omega) (by decide) (Nat.le_of_ble_eq_true rfl) (Nat.le_of_ble_eq_true rfl) rfl rfl (Nat.le_of_ble_eq_true rfl) hf (fun hs => uX9_init (by omega) (by omega) hs) (fun c26 hf => ?_)
  show mG _ _ _ 21 199 _ _ _ (_, _, _, (n + 21, _))
  refine mk_tR (ti := 5) C rfl rfl rfl hf (fun c27 hf => ?_)
  refine mg_iinc (v := 3) (lv' := [(0, .ref v0), (1, .int (3 : Int32))]) C rfl (Nat.le_of_ble_eq_true rfl) rfl (by decide) rfl ?_
  refine mg_goto C rfl ?_
  refine mg_iload_n C rfl rfl ?_
  refine mg_bipush (v := 40) C rfl (by decide) ?_
  refine mg_icmp_ge C rfl (fun h => absurd h (by decide)) (fun _ => ?_)
  refine mg_aload_n C rfl rfl ?_
  refine mk_gR C rfl rfl rfl (by decide) hf (fun x28 hf => ?_)
  refine mg_iload_n C rfl rfl ?_
  refine mk_new C rfl rfl rfl wo_in9 wo_it9 dfl_9 hRm (Nat.le_of_ble_eq_true rfl) (Nat.le_of_ble_eq_true rfl) (by omega) hf (fun c29 hf => ?_)
  show mG _ _ _ 22 208 _ _ _ (_, _, _, (n + 22, _))
  refine mg_dup C rfl rfl ?_
  refine mk_cN (M' := qX9_init) (d' := d - 1) (mc' := 3) (ms' := 24) (m' := n + 25) (host := "CloudTakes") C rfl (by decide) aX9_init iX9_init rfl rfl hRm (by omega) (by decide) (Nat.le_of_ble_eq_true rfl) (Nat.le_of_ble_eq_true rfl) rfl rfl (Nat.le_of_ble_eq_true rfl) hf (fun hs => uX9_init (by omega) (by omega) hs) (fun c30 hf => ?_)
  show mG _ _ _ 25 232 _ _ _ (_, _, _, (n + 25, _))
  refine mk_tR (ti := 5) C rfl rfl rfl hf (fun c31 hf => ?_)
  refine mg_iinc (v := 4) (lv' := [(0, .ref v0), (1, .int (4 : Int32))]) C rfl (Nat.le_of_ble_eq_true rfl) rfl (by decide) rfl ?_
  refine mg_goto C rfl ?_
  refine mg_iload_n C rfl rfl ?_
  refine mg_bipush (v := 40) C rfl (by decide) ?_
  refine mg_icmp_ge C rfl (fun h => absurd h (by decide)) (fun _ => ?_)
  refine mg_aload_n C rfl rfl ?_
  refine mk_gR C rfl rfl rfl (by decide) hf (fun x32 hf => ?_)
  refine mg_iload_n C rfl rfl ?_
  refine mk_new C rfl rfl rfl wo_in9 wo_it9 dfl_9 hRm (Nat.le_of_ble_eq_true rfl) (Nat.le_of_ble_eq_true rfl) (by omega) hf (fun c33 hf => ?_)
  show mG _ _ _ 26 241 _ _ _ (_, _, _, (n + 26, _))
  refine mg_dup C rfl rfl ?_
  refine mk_cN (M' := qX9_init) (d' := d - 1) (mc' := 3) (ms' := 24) (m' := n + 29) (host := "CloudTakes") C rfl (by decide) aX9_init iX9_init rfl rfl hRm (by omega) (by decide) (Nat.le_of_ble_eq_true rfl) (Nat.le_of_ble_eq_true rfl) rfl rfl (Nat.le_of_ble_eq_true rfl) hf (fun hs => uX9_init (by omega) (by omega) hs) (fun c34 hf => ?_)
  show mG _ _ _ 29 265 _ _ _ (_, _, _, (n + 29, _))
  refine mk_tR (ti := 5) C rfl rfl rfl hf (fun c35 hf => ?_)
  refine mg_iinc (v := 5) (lv' := [(0, .ref v0), (1, .int (5 : Int32))]) C rfl (Nat.le_of_ble_eq_true rfl) rfl (by decide) rfl ?_
  refine mg_goto C rfl ?_
  refine mg_iload_n C rfl rfl ?_
  refine mg_bipush (v := 40) C rfl (by decide) ?_
  refine mg_icmp_ge C rfl (fun h => absurd h (by decide)) (fun _ => ?_)
  refine mg_aload_n C rfl rfl ?_
  refine mk_gR C rfl rfl rfl (by decide) hf (fun x36 hf => ?_)
  refine mg_iload_n C rfl rfl ?_
  refine mk_new C rfl rfl rfl wo_in9 wo_it9 dfl_9 hRm (Nat.le_of_ble_eq_true rfl) (Nat.le_of_ble_eq_true rfl) (by omega) hf (fun c37 hf => ?_)
  show mG _ _ _ 30 274 _ _ _ (_, _, _, (n + 30, _))
  refine mg_dup C rfl rfl ?_
  refine mk_cN (M' := qX9_init) (d' := d - 1) (mc' := 3) (ms' := 24) (m' := n + 33) (host := "CloudTakes") C rfl (by decide) aX9_init iX9_init rfl rfl hRm (by omega) (by decide) (Nat.le_of_ble_eq_true rfl) (Nat.le_of_ble_eq_true rfl) rfl rfl (Nat.le_of_ble_eq_true rfl) hf (fun hs => uX9_init (by omega) (by omega) hs) (fun c38 hf => ?_)
  show mG _ _ _ 33 298 _ _ _ (_, _, _, (n + 33, _))
  refine mk_tR (ti := 5) C rfl rfl rfl hf (fun c39 hf => ?_)
  refine mg_iinc (v := 6) (lv' := [(0, .ref v0), (1, .int (6 : Int32))]) C rfl (Nat.le_of_ble_eq_true rfl) rfl (by decide) rfl ?_
  refine mg_goto C rfl ?_
  refine mg_iload_n C rfl rfl ?_
  refine mg_bipush (v := 40) C rfl (by decide) ?_
  refine mg_icmp_ge C rfl (fun h => absurd h (by decide)) (fun _ => ?_)
  refine mg_aload_n C rfl rfl ?_
  refine mk_gR C rfl rfl rfl (by decide) hf (fun x40 hf => ?_)
  refine mg_iload_n C rfl rfl ?_
  refine mk_new C rfl rfl rfl wo_in9 wo_it9 dfl_9 hRm (Nat.le_of_ble_eq_true rfl) (Nat.le_of_ble_eq_true rfl) (by omega) hf (fun c41 hf => ?_)
  show mG _ _ _ 34 307 _ _ _ (_, _, _, (n + 34, _))
  refine mg_dup C rfl rfl ?_
  refine mk_cN (M' := qX9_init) (d' := d - 1) (mc' := 3) (ms' := 24) (m' := n + 37) (host := "CloudTakes") C rfl (by decide) aX9_init iX9_init rfl rfl hRm (by omega) (by decide) (Nat.le_of_ble_eq_true rfl) (Nat.le_of_ble_eq_true rfl) rfl rfl (Nat.le_of_ble_eq_true rfl) hf (fun hs => uX9_init (by omega) (by omega) hs) (fun c42 hf => ?_)
  show mG _ _ _ 37 331 _ _ _ (_, _, _, (n + 37, _))
  refine mk_tR (ti := 5) C rfl rfl rfl hf (fun c43 hf => ?_)
  refine mg_iinc (v := 7) (lv' := [(0, .ref v0), (1, .int (7 : Int32))]) C rfl (Nat.le_of_ble_eq_true rfl) rfl (by decide) rfl ?_
  refine mg_goto C rfl ?_
  refine mg_iload_n C rfl rfl ?_
  refine mg_bipush (v := 40) C rfl (by decide) ?_
  refine mg_icmp_ge C rfl (fun h => absurd h (by decide)) (fun _ => ?_)
  refine mg_aload_n C rfl rfl ?_
  refine mk_gR C rfl rfl rfl (by decide) hf (fun x44 hf => ?_)
  refine mg_iload_n C rfl rfl ?_
  refine mk_new C rfl rfl rfl wo_in9 wo_it9 dfl_9 hRm (Nat.le_of_ble_eq_true rfl) (Nat.le_of_ble_eq_true rfl) (by omega) hf (fun c45 hf => ?_)
  show mG _ _ _ 38 340 _ _ _ (_, _, _, (n + 38, _))
  refine mg_dup C rfl rfl ?_
  refine mk_cN (M' := qX9_init) (d' := d - 1) (mc' := 3) (ms' := 24) (m' := n + 41) (host := "CloudTakes") C rfl (by decide) aX9_init iX9_init rfl rfl hRm (by omega) (by decide) (Nat.le_of_ble_eq_true rfl) (Nat.le_of_ble_eq_true rfl) rfl rfl (Nat.le_of_ble_eq_true rfl) hf (fun hs => uX9_init (by omega) (by omega) hs) (fun c46 hf => ?_)
  show mG _ _ _ 41 364 _ _ _ (_, _, _, (n + 41, _))
  refine mk_tR (ti := 5) C rfl rfl rfl hf (fun c47 hf => ?_)
  refine mg_iinc (v := 8) (lv' := [(0, .ref v0), (1, .int (8 : Int32))]) C rfl (Nat.le_of_ble_eq_true rfl) rfl (by decide) rfl ?_
  refine mg_goto C rfl ?_
  refine mg_iload_n C rfl rfl ?_
  refine mg_bipush (v := 40) C rfl (by decide) ?_
  refine mg_icmp_ge C rfl (fun h => absurd h (by decide)) (fun _ => ?_)
  refine mg_aload_n C rfl rfl ?_
  refine mk_gR C rfl rfl rfl (by decide) hf (fun x48 hf => ?_)
  refine mg_iload_n C rfl rfl ?_
  refine mk_new C rfl rfl rfl wo_in9 wo_it9 dfl_9 hRm (Nat.le_of_ble_eq_true rfl) (Nat.le_of_ble_eq_true rfl) (by omega) hf (fun c49 hf => ?_)
  show mG _ _ _ 42 373 _ _ _ (_, _, _, (n + 42, _))
  refine mg_dup C rfl rfl ?_
  refine mk_cN (M' := qX9_init) (d' := d - 1) (mc' := 3) (ms' := 24) (m' := n + 45) (host := "CloudTakes") C rfl (by decide) aX9_init iX9_init rfl rfl hRm (by omega) (by decide) (Nat.le_of_ble_eq_true rfl) (Nat.le_of_ble_eq_true rfl) rfl rfl (Nat.le_of_ble_eq_true rfl) hf (fun hs => uX9_init (by omega) (by omega) hs) (fun c50 hf => ?_)
  show mG _ _ _ 45 397 _ _ _ (_, _, _, (n + 45, _))
  refine mk_tR (ti := 5) C rfl rfl rfl hf (fun c51 hf => ?_)
  refine mg_iinc (v := 9) (lv' := [(0, .ref v0), (1, .int (9 : Int32))]) C rfl (Nat.le_of_ble_eq_true rfl) rfl (by decide) rfl ?_
  refine mg_goto C rfl ?_
  refine mg_iload_n C rfl rfl ?_
  refine mg_bipush (v := 40) C rfl (by decide) ?_
  refine mg_icmp_ge C rfl (fun h => absurd h (by decide)) (fun _ => ?_)
  refine mg_aload_n C rfl rfl ?_
  refine mk_gR C rfl rfl rfl (by decide) hf (fun x52 hf => ?_)
  refine mg_iload_n C rfl rfl ?_
  refine mk_new C rfl rfl rfl wo_in9 wo_it9 dfl_9 hRm (Nat.le_of_ble_eq_true rfl) (Nat.le_of_ble_eq_true rfl) (by omega) hf (fun c53 hf => ?_)
  show mG _ _ _ 46 406 _ _ _ (_, _, _, (n + 46, _))
  refine mg_dup C rfl rfl ?_
  refine mk_cN (M' := qX9_init) (d' := d - 1) (mc' := 3) (ms' := 24) (m' := n + 49) (host := "CloudTakes") C rfl (by decide) aX9_init iX9_init rfl rfl hRm (by omega) (by decide) (Nat.le_of_ble_eq_true rfl) (Nat.le_of_ble_eq_true rfl) rfl rfl (Nat.le_of_ble_eq_true rfl) hf (fun hs => uX9_init (by omega) (by omega) hs) (fun c54 hf => ?_)
  show mG _ _ _ 49 430 _ _ _ (_, _, _, (n + 49, _))
  refine mk_tR (ti := 5) C rfl rfl rfl hf (fun c55 hf => ?_)
  refine mg_iinc (v := 10) (lv' := [(0, .ref v0), (1, .int (10 : Int32))]) C rfl (Nat.le_of_ble_eq_true rfl) rfl (by decide) rfl ?_
  refine mg_goto C rfl ?_
  refine mg_iload_n C rfl rfl ?_
  refine mg_bipush (v := 40) C rfl (by decide) ?_
  refine mg_icmp_ge C rfl (fun h => absurd h (by decide)) (fun _ => ?_)
  refine mg_aload_n C rfl rfl ?_
  refine mk_gR C rfl rfl rfl (by decide) hf (fun x56 hf => ?_)
  refine mg_iload_n C rfl rfl ?_
  refine mk_new C rfl rfl rfl wo_in9 wo_it9 dfl_9 hRm (Nat.le_of_ble_eq_true rfl) (Nat.le_of_ble_eq_true rfl) (by omega) hf (fun c57 hf => ?_)
  show mG _ _ _ 50 439 _ _ _ (_, _, _, (n + 50, _))
  refine mg_dup C rfl rfl ?_
  refine mk_cN (M' := qX9_init) (d' := d - 1) (mc' := 3) (ms' := 24) (m' := n + 53) (host := "CloudTakes") C rfl (by decide) aX9_init iX9_init rfl rfl hRm (by omega) (by decide) (Nat.le_of_ble_eq_true rfl) (Nat.le_of_ble_eq_true rfl) rfl rfl (Nat.le_of_ble_eq_true rfl) hf (fun hs => uX9_init (by omega) (by omega) hs) (fun c58 hf => ?_)
  show mG _ _ _ 53 463 _ _ _ (_, _, _, (n + 53, _))
  refine mk_tR (ti := 5) C rfl rfl rfl hf (fun c59 hf => ?_)
  refine mg_iinc (v := 11) (lv' := [(0, .ref v0), (1, .int (11 : Int32))]) C rfl (Nat.le_of_ble_eq_true rfl) rfl (by decide) rfl ?_
  refine mg_goto C rfl ?_
  refine mg_iload_n C rfl rfl ?_
  refine mg_bipush (v := 40) C rfl (by decide) ?_
  refine mg_icmp_ge C rfl (fun h => absurd h (by decide)) (fun _ => ?_)
  refine mg_aload_n C rfl rfl ?_
  refine mk_gR C rfl rfl rfl (by decide) hf (fun x60 hf => ?_)
  refine mg_iload_n C rfl rfl ?_
  refine mk_new C rfl rfl rfl wo_in9 wo_it9 dfl_9 hRm (Nat.le_of_ble_eq_true rfl) (Nat.le_of_ble_eq_true rfl) (by omega) hf (fun c61 hf => ?_)
  show mG _ _ _ 54 472 _ _ _ (_, _, _, (n + 54, _))
  refine mg_dup C rfl rfl ?_
  refine mk_cN (M' := qX9_init) (d' := d - 1) (mc' := 3) (ms' := 24) (m' := n + 57) (host := "CloudTakes") C rfl (by decide) aX9_init iX9_init rfl rfl hRm (by omega) (by decide) (Nat.le_of_ble_eq_true rfl) (Nat.le_of_ble_eq_true rfl) rfl rfl (Nat.le_of_ble_eq_true rfl) hf (fun hs => uX9_init (by omega) (by omega) hs) (fun c62 hf => ?_)
  show mG _ _ _ 57 496 _ _ _ (_, _, _, (n + 57, _))
  refine mk_tR (ti := 5) C rfl rfl rfl hf (fun c63 hf => ?_)
  refine mg_iinc (v := 12) (lv' := [(0, .ref v0), (1, .int (12 : Int32))]) C rfl (Nat.le_of_ble_eq_true rfl) rfl (by decide) rfl ?_
  refine mg_goto C rfl ?_
  refine mg_iload_n C rfl rfl ?_
  refine mg_bipush (v := 40) C rfl (by decide) ?_
  refine mg_icmp_ge C rfl (fun h => absurd h (by decide)) (fun _ => ?_)
  refine mg_aload_n C rfl rfl ?_
  refine mk_gR C rfl rfl rfl (by decide) hf (fun x64 hf => ?_)
  refine mg_iload_n C rfl rfl ?_
  refine mk_new C rfl rfl rfl wo_in9 wo_it9 dfl_9 hRm (Nat.le_of_ble_eq_true rfl) (Nat.le_of_ble_eq_true rfl) (by omega) hf (fun c65 hf => ?_)
  show mG _ _ _ 58 505 _ _ _ (_, _, _, (n + 58, _))
  refine mg_dup C rfl rfl ?_
  refine mk_cN (M' := qX9_init) (d' := d - 1) (mc' := 3) (ms' := 24) (m' := n + 61) (host := "CloudTakes") C rfl (by decide) aX9_init iX9_init rfl rfl hRm (by omega) (by decide) (Nat.le_of_ble_eq_true rfl) (Nat.le_of_ble_eq_true rfl) rfl rfl (Nat.le_of_ble_eq_true rfl) hf (fun hs => uX9_init (by omega) (by omega) hs) (fun c66 hf => ?_)
  show mG _ _ _ 61 529 _ _ _ (_, _, _, (n + 61, _))
  refine mk_tR (ti := 5) C rfl rfl rfl hf (fun c67 hf => ?_)
  refine mg_iinc (v := 13) (lv' := [(0, .ref v0), (1, .int (13 : Int32))]) C rfl (Nat.le_of_ble_eq_true rfl) rfl (by decide) rfl ?_
  refine mg_goto C rfl ?_
  refine mg_iload_n C rfl rfl ?_
  refine mg_bipush (v := 40) C rfl (by decide) ?_
  refine mg_icmp_ge C rfl (fun h => absurd h (by decide)) (fun _ => ?_)
  refine mg_aload_n C rfl rfl ?_
  refine mk_gR C rfl rfl rfl (by decide) hf (fun x68 hf => ?_)
  refine mg_iload_n C rfl rfl ?_
  refine mk_new C rfl rfl rfl wo_in9 wo_it9 dfl_9 hRm (Nat.le_of_ble_eq_true rfl) (Nat.le_of_ble_eq_true rfl) (by omega) hf (fun c69 hf => ?_)
  show mG _ _ _ 62 538 _ _ _ (_, _, _, (n + 62, _))
  refine mg_dup C rfl rfl ?_
  refine mk_cN (M' := qX9_init) (d' := d - 1) (mc' := 3) (ms' := 24) (m' := n + 65) (host := "CloudTakes") C rfl (by decide) aX9_init iX9_init rfl rfl hRm (by omega) (by decide) (Nat.le_of_ble_eq_true rfl) (Nat.le_of_ble_eq_true rfl) rfl rfl (Nat.le_of_ble_eq_true rfl) hf (fun hs => uX9_init (by omega) (by omega) hs) (fun c70 hf => ?_)
  show mG _ _ _ 65 562 _ _ _ (_, _, _, (n + 65, _))
  refine mk_tR (ti := 5) C rfl rfl rfl hf (fun c71 hf => ?_)
  refine mg_iinc (v := 14) (lv' := [(0, .ref v0), (1, .int (14 : Int32))]) C rfl (Nat.le_of_ble_eq_true rfl) rfl (by decide) rfl ?_
  refine mg_goto C rfl ?_
  refine mg_iload_n C rfl rfl ?_
  refine mg_bipush (v := 40) C rfl (by decide) ?_
  refine mg_icmp_ge C rfl (fun h => absurd h (by decide)) (fun _ => ?_)
  refine mg_aload_n C rfl rfl ?_
  refine mk_gR C rfl rfl rfl (by decide) hf (fun x72 hf => ?_)
  refine mg_iload_n C rfl rfl ?_
  refine mk_new C rfl rfl rfl wo_in9 wo_it9 dfl_9 hRm (Nat.le_of_ble_eq_true rfl) (Nat.le_of_ble_eq_true rfl) (by omega) hf (fun c73 hf => ?_)
  show mG _ _ _ 66 571 _ _ _ (_, _, _, (n + 66, _))
  refine mg_dup C rfl rfl ?_
  refine mk_cN (M' := qX9_init) (d' := d - 1) (mc' := 3) (ms' := 24) (m' := n + 69) (host := "CloudTakes") C rfl (by decide) aX9_init iX9_init rfl rfl hRm (by omega) (by decide) (Nat.le_of_ble_eq_true rfl) (Nat.le_of_ble_eq_true rfl) rfl rfl (Nat.le_of_ble_eq_true rfl) hf (fun hs => uX9_init (by omega) (by omega) hs) (fun c74 hf => ?_)
  show mG _ _ _ 69 595 _ _ _ (_, _, _, (n + 69, _))
  refine mk_tR (ti := 5) C rfl rfl rfl hf (fun c75 hf => ?_)
  refine mg_iinc (v := 15) (lv' := [(0, .ref v0), (1, .int (15 : Int32))]) C rfl (Nat.le_of_ble_eq_true rfl) rfl (by decide) rfl ?_
  refine mg_goto C rfl ?_
  refine mg_iload_n C rfl rfl ?_
  refine mg_bipush (v := 40) C rfl (by decide) ?_
  refine mg_icmp_ge C rfl (fun h => absurd h (by decide)) (fun _ => ?_)
  refine mg_aload_n C rfl rfl ?_
  refine mk_gR C rfl rfl rfl (by decide) hf (fun x76 hf => ?_)
  refine mg_iload_n C rfl rfl ?_
  refine mk_new C rfl rfl rfl wo_in9 wo_it9 dfl_9 hRm (Nat.le_of_ble_eq_true rfl) (Nat.le_of_ble_eq_true rfl) (by omega) hf (fun c77 hf => ?_)
  show mG _ _ _ 70 604 _ _ _ (_, _, _, (n + 70, _))
  refine mg_dup C rfl rfl ?_
  refine mk_cN (M' := qX9_init) (d' := d - 1) (mc' := 3) (ms' := 24) (m' := n + 73) (host := "CloudTakes") C rfl (by decide) aX9_init iX9_init rfl rfl hRm (by omega) (by decide) (Nat.le_of_ble_eq_true rfl) (Nat.le_of_ble_eq_true rfl) rfl rfl (Nat.le_of_ble_eq_true rfl) hf (fun hs => uX9_init (by omega) (by omega) hs) (fun c78 hf => ?_)
  show mG _ _ _ 73 628 _ _ _ (_, _, _, (n + 73, _))
  refine mk_tR (ti := 5) C rfl rfl rfl hf (fun c79 hf => ?_)
  refine mg_iinc (v := 16) (lv' := [(0, .ref v0), (1, .int (16 : Int32))]) C rfl (Nat.le_of_ble_eq_true rfl) rfl (by decide) rfl ?_
  refine mg_goto C rfl ?_
  refine mg_iload_n C rfl rfl ?_
  refine mg_bipush (v := 40) C rfl (by decide) ?_
  refine mg_icmp_ge C rfl (fun h => absurd h (by decide)) (fun _ => ?_)
  refine mg_aload_n C rfl rfl ?_
  refine mk_gR C rfl rfl rfl (by decide) hf (fun x80 hf => ?_)
  refine mg_iload_n C rfl rfl ?_
  refine mk_new C rfl rfl rfl wo_in9 wo_it9 dfl_9 hRm (Nat.le_of_ble_eq_true rfl) (Nat.le_of_ble_eq_true rfl) (by omega) hf (fun c81 hf => ?_)
  show mG _ _ _ 74 637 _ _ _ (_, _, _, (n + 74, _))
  refine mg_dup C rfl rfl ?_
  refine mk_cN (M' := qX9_init) (d' := d - 1) (mc' := 3) (ms' := 24) (m' := n + 77) (host := "CloudTakes") C rfl (by decide) aX9_init iX9_init rfl rfl hRm (by omega) (by decide) (Nat.le_of_ble_eq_true rfl) (Nat.le_of_ble_eq_true rfl) rfl rfl (Nat.le_of_ble_eq_true rfl) hf (fun hs => uX9_init (by omega) (by omega) hs) (fun c82 hf => ?_)
  show mG _ _ _ 77 661 _ _ _ (_, _, _, (n + 77, _))
  refine mk_tR (ti := 5) C rfl rfl rfl hf (fun c83 hf => ?_)
  refine mg_iinc (v := 17) (lv' := [(0, .ref v0), (1, .int (17 : Int32))]) C rfl (Nat.le_of_ble_eq_true rfl) rfl (by decide) rfl ?_
  refine mg_goto C rfl ?_
  refine mg_iload_n C rfl rfl ?_
  refine mg_bipush (v := 40) C rfl (by decide) ?_
  refine mg_icmp_ge C rfl (fun h => absurd h (by decide)) (fun _ => ?_)
  refine mg_aload_n C rfl rfl ?_
  refine mk_gR C rfl rfl rfl (by decide) hf (fun x84 hf => ?_)
  refine mg_iload_n C rfl rfl ?_
  refine mk_new C rfl rfl rfl wo_in9 wo_it9 dfl_9 hRm (Nat.le_of_ble_eq_true rfl) (Nat.le_of_ble_eq_true rfl) (by omega) hf (fun c85 hf => ?_)
  show mG _ _ _ 78 670 _ _ _ (_, _, _, (n + 78, _))
  refine mg_dup C rfl rfl ?_
  refine mk_cN (M' := qX9_init) (d' := d - 1) (mc' := 3) (ms' := 24) (m' := n + 81) (host := "CloudTakes") C rfl (by decide) aX9_init iX9_init rfl rfl hRm (by omega) (by decide) (Nat.le_of_ble_eq_true rfl) (Nat.le_of_ble_eq_true rfl) rfl rfl (Nat.le_of_ble_eq_true rfl) hf (fun hs => uX9_init (by omega) (by omega) hs) (fun c86 hf => ?_)
  show mG _ _ _ 81 694 _ _ _ (_, _, _, (n + 81, _))
  refine mk_tR (ti := 5) C rfl rfl rfl hf (fun c87 hf => ?_)
  refine mg_iinc (v := 18) (lv' := [(0, .ref v0), (1, .int (18 : Int32))]) C rfl (Nat.le_of_ble_eq_true rfl) rfl (by decide) rfl ?_
  refine mg_goto C rfl ?_
  refine mg_iload_n C rfl rfl ?_
  refine mg_bipush (v := 40) C rfl (by decide) ?_
  refine mg_icmp_ge C rfl (fun h => absurd h (by decide)) (fun _ => ?_)
  refine mg_aload_n C rfl rfl ?_
  refine mk_gR C rfl rfl rfl (by decide) hf (fun x88 hf => ?_)
  refine mg_iload_n C rfl rfl ?_
  refine mk_new C rfl rfl rfl wo_in9 wo_it9 dfl_9 hRm (Nat.le_of_ble_eq_true rfl) (Nat.le_of_ble_eq_true rfl) (by omega) hf (fun c89 hf => ?_)
  show mG _ _ _ 82 703 _ _ _ (_, _, _, (n + 82, _))
  refine mg_dup C rfl rfl ?_
  refine mk_cN (M' := qX9_init) (d' := d - 1) (mc' := 3) (ms' := 24) (m' := n + 85) (host := "CloudTakes") C rfl (by decide) aX9_init iX9_init rfl rfl hRm (by omega) (by decide) (Nat.le_of_ble_eq_true rfl) (Nat.le_of_ble_eq_true rfl) rfl rfl (Nat.le_of_ble_eq_true rfl) hf (fun hs => uX9_init (by omega) (by omega) hs) (fun c90 hf => ?_)
  show mG _ _ _ 85 727 _ _ _ (_, _, _, (n + 85, _))
  refine mk_tR (ti := 5) C rfl rfl rfl hf (fun c91 hf => ?_)
  refine mg_iinc (v := 19) (lv' := [(0, .ref v0), (1, .int (19 : Int32))]) C rfl (Nat.le_of_ble_eq_true rfl) rfl (by decide) rfl ?_
  refine mg_goto C rfl ?_
  refine mg_iload_n C rfl rfl ?_
  refine mg_bipush (v := 40) C rfl (by decide) ?_
  refine mg_icmp_ge C rfl (fun h => absurd h (by decide)) (fun _ => ?_)
  refine mg_aload_n C rfl rfl ?_
  refine mk_gR C rfl rfl rfl (by decide) hf (fun x92 hf => ?_)
  refine mg_iload_n C rfl rfl ?_
  refine mk_new C rfl rfl rfl wo_in9 wo_it9 dfl_9 hRm (Nat.le_of_ble_eq_true rfl) (Nat.le_of_ble_eq_true rfl) (by omega) hf (fun c93 hf => ?_)
  show mG _ _ _ 86 736 _ _ _ (_, _, _, (n + 86, _))
  refine mg_dup C rfl rfl ?_
  refine mk_cN (M' := qX9_init) (d' := d - 1) (mc' := 3) (ms' := 24) (m' := n + 89) (host := "CloudTakes") C rfl (by decide) aX9_init iX9_init rfl rfl hRm (by omega) (by decide) (Nat.le_of_ble_eq_true rfl) (Nat.le_of_ble_eq_true rfl) rfl rfl (Nat.le_of_ble_eq_true rfl) hf (fun hs => uX9_init (by omega) (by omega) hs) (fun c94 hf => ?_)
  show mG _ _ _ 89 760 _ _ _ (_, _, _, (n + 89, _))
  refine mk_tR (ti := 5) C rfl rfl rfl hf (fun c95 hf => ?_)
  refine mg_iinc (v := 20) (lv' := [(0, .ref v0), (1, .int (20 : Int32))]) C rfl (Nat.le_of_ble_eq_true rfl) rfl (by decide) rfl ?_
  refine mg_goto C rfl ?_
  refine mg_iload_n C rfl rfl ?_
  refine mg_bipush (v := 40) C rfl (by decide) ?_
  refine mg_icmp_ge C rfl (fun h => absurd h (by decide)) (fun _ => ?_)
  refine mg_aload_n C rfl rfl ?_
  refine mk_gR C rfl rfl rfl (by decide) hf (fun x96 hf => ?_)
  refine mg_iload_n C rfl rfl ?_
  refine mk_new C rfl rfl rfl wo_in9 wo_it9 dfl_9 hRm (Nat.le_of_ble_eq_true rfl) (Nat.le_of_ble_eq_true rfl) (by omega) hf (fun c97 hf => ?_)
  show mG _ _ _ 90 769 _ _ _ (_, _, _, (n + 90, _))
  refine mg_dup C rfl rfl ?_
  refine mk_cN (M' := qX9_init) (d' := d - 1) (mc' := 3) (ms' := 24) (m' := n + 93) (host := "CloudTakes") C rfl (by decide) aX9_init iX9_init rfl rfl hRm (by omega) (by decide) (Nat.le_of_ble_eq_true rfl) (Nat.le_of_ble_eq_true rfl) rfl rfl (Nat.le_of_ble_eq_true rfl) hf (fun hs => uX9_init (by omega) (by omega) hs) (fun c98 hf => ?_)
  show mG _ _ _ 93 793 _ _ _ (_, _, _, (n + 93, _))
  refine mk_tR (ti := 5) C rfl rfl rfl hf (fun c99 hf => ?_)
  refine mg_iinc (v := 21) (lv' := [(0, .ref v0), (1, .int (21 : Int32))]) C rfl (Nat.le_of_ble_eq_true rfl) rfl (by decide) rfl ?_
  refine mg_goto C rfl ?_
  refine mg_iload_n C rfl rfl ?_
  refine mg_bipush (v := 40) C rfl (by decide) ?_
  refine mg_icmp_ge C rfl (fun h => absurd h (by decide)) (fun _ => ?_)
  refine mg_aload_n C rfl rfl ?_
  refine mk_gR C rfl rfl rfl (by decide) hf (fun x100 hf => ?_)
  refine mg_iload_n C rfl rfl ?_
  refine mk_new C rfl rfl rfl wo_in9 wo_it9 dfl_9 hRm (Nat.le_of_ble_eq_true rfl) (Nat.le_of_ble_eq_true rfl) (by omega) hf (fun c101 hf => ?_)
  show mG _ _ _ 94 802 _ _ _ (_, _, _, (n + 94, _))
  refine mg_dup C rfl rfl ?_
  refine mk_cN (M' := qX9_init) (d' := d - 1) (mc' := 3) (ms' := 24) (m' := n + 97) (host := "CloudTakes") C rfl (by decide) aX9_init iX9_init rfl rfl hRm (by omega) (by decide) (Nat.le_of_ble_eq_true rfl) (Nat.le_of_ble_eq_true rfl) rfl rfl (Nat.le_of_ble_eq_true rfl) hf (fun hs => uX9_init (by omega) (by omega) hs) (fun c102 hf => ?_)
  show mG _ _ _ 97 826 _ _ _ (_, _, _, (n + 97, _))
  refine mk_tR (ti := 5) C rfl rfl rfl hf (fun c103 hf => ?_)
  refine mg_iinc (v := 22) (lv' := [(0, .ref v0), (1, .int (22 : Int32))]) C rfl (Nat.le_of_ble_eq_true rfl) rfl (by decide) rfl ?_
  refine mg_goto C rfl ?_
  refine mg_iload_n C rfl rfl ?_
  refine mg_bipush (v := 40) C rfl (by decide) ?_
  refine mg_icmp_ge C rfl (fun h => absurd h (by decide)) (fun _ => ?_)
  refine mg_aload_n C rfl rfl ?_
  refine mk_gR C rfl rfl rfl (by decide) hf (fun x104 hf => ?_)
  refine mg_iload_n C rfl rfl ?_
  refine mk_new C rfl rfl rfl wo_in9 wo_it9 dfl_9 hRm (Nat.le_of_ble_eq_true rfl) (Nat.le_of_ble_eq_true rfl) (by omega) hf (fun c105 hf => ?_)
  show mG _ _ _ 98 835 _ _ _ (_, _, _, (n + 98, _))
  refine mg_dup C rfl rfl ?_
  refine mk_cN (M' := qX9_init) (d' := d - 1) (mc' := 3) (ms' := 24) (m' := n + 101) (host := "CloudTakes") C rfl (by decide) aX9_init iX9_init rfl rfl hRm (by omega) (by decide) (Nat.le_of_ble_eq_true rfl) (Nat.le_of_ble_eq_true rfl) rfl rfl (Nat.le_of_ble_eq_true rfl) hf (fun hs => uX9_init (by omega) (by omega) hs) (fun c106 hf => ?_)
  show mG _ _ _ 101 859 _ _ _ (_, _, _, (n + 101, _))
  refine mk_tR (ti := 5) C rfl rfl rfl hf (fun c107 hf => ?_)
  refine mg_iinc (v := 23) (lv' := [(0, .ref v0), (1, .int (23 : Int32))]) C rfl (Nat.le_of_ble_eq_true rfl) rfl (by decide) rfl ?_
  refine mg_goto C rfl ?_
  refine mg_iload_n C rfl rfl ?_
  refine mg_bipush (v := 40) C rfl (by decide) ?_
  refine mg_icmp_ge C rfl (fun h => absurd h (by decide)) (fun _ => ?_)
  refine mg_aload_n C rfl rfl ?_
  refine mk_gR C rfl rfl rfl (by decide) hf (fun x108 hf => ?_)
  refine mg_iload_n C rfl rfl ?_
  refine mk_new C rfl rfl rfl wo_in9 wo_it9 dfl_9 hRm (Nat.le_of_ble_eq_true rfl) (Nat.le_of_ble_eq_true rfl) (by omega) hf (fun c109 hf => ?_)
  show mG _ _ _ 102 868 _ _ _ (_, _, _, (n + 102, _))
  refine mg_dup C rfl rfl ?_
  refine mk_cN (M' := qX9_init) (d' := d - 1) (mc' := 3) (ms' := 24) (m' := n + 105) (host := "CloudTakes") C rfl (by decide) aX9_init iX9_init rfl rfl hRm (by omega) (by decide) (Nat.le_of_ble_eq_true rfl) (Nat.le_of_ble_eq_true rfl) rfl rfl (Nat.le_of_ble_eq_true rfl) hf (fun hs => uX9_init (by omega) (by omega) hs) (fun c110 hf => ?_)
  show mG _ _ _ 105 892 _ _ _ (_, _, _, (n + 105, _))
  refine mk_tR (ti := 5) C rfl rfl rfl hf (fun c111 hf => ?_)
  refine mg_iinc (v := 24) (lv' := [(0, .ref v0), (1, .int (24 : Int32))]) C rfl (Nat.le_of_ble_eq_true rfl) rfl (by decide) rfl ?_
  refine mg_goto C rfl ?_
  refine mg_iload_n C rfl rfl ?_
  refine mg_bipush (v := 40) C rfl (by decide) ?_
  refine mg_icmp_ge C rfl (fun h => absurd h (by decide)) (fun _ => ?_)
  refine mg_aload_n C rfl rfl ?_
  refine mk_gR C rfl rfl rfl (by decide) hf (fun x112 hf => ?_)
  refine mg_iload_n C rfl rfl ?_
  refine mk_new C rfl rfl rfl wo_in9 wo_it9 dfl_9 hRm (Nat.le_of_ble_eq_true rfl) (Nat.le_of_ble_eq_true rfl) (by omega) hf (fun c113 hf => ?_)
  show mG _ _ _ 106 901 _ _ _ (_, _, _, (n + 106, _))
  refine mg_dup C rfl rfl ?_
  refine mk_cN (M' := qX9_init) (d' := d - 1) (mc' := 3) (ms' := 24) (m' := n + 109) (host := "CloudTakes") C rfl (by decide) aX9_init iX9_init rfl rfl hRm (by omega) (by decide) (Nat.le_of_ble_eq_true rfl) (Nat.le_of_ble_eq_true rfl) rfl rfl (Nat.le_of_ble_eq_true rfl) hf (fun hs => uX9_init (by omega) (by omega) hs) (fun c114 hf => ?_)
  show mG _ _ _ 109 925 _ _ _ (_, _, _, (n + 109, _))
  refine mk_tR (ti := 5) C rfl rfl rfl hf (fun c115 hf => ?_)
  refine mg_iinc (v := 25) (lv' := [(0, .ref v0), (1, .int (25 : Int32))]) C rfl (Nat.le_of_ble_eq_true rfl) rfl (by decide) rfl ?_
  refine mg_goto C rfl ?_
  refine mg_iload_n C rfl rfl ?_
  refine mg_bipush (v := 40) C rfl (by decide) ?_
  refine mg_icmp_ge C rfl (fun h => absurd h (by decide)) (fun _ => ?_)
  refine mg_aload_n C rfl rfl ?_
  refine mk_gR C rfl rfl rfl (by decide) hf (fun x116 hf => ?_)
  refine mg_iload_n C rfl rfl ?_
  refine mk_new C rfl rfl rfl wo_in9 wo_it9 dfl_9 hRm (Nat.le_of_ble_eq_true rfl) (Nat.le_of_ble_eq_true rfl) (by omega) hf (fun c117 hf => ?_)
  show mG _ _ _ 110 934 _ _ _ (_, _, _, (n + 110, _))
  refine mg_dup C rfl rfl ?_
  refine mk_cN (M' := qX9_init) (d' := d - 1) (mc' := 3) (ms' := 24) (m' := n + 113) (host := "CloudTakes") C rfl (by decide) aX9_init iX9_init rfl rfl hRm (by omega) (by decide) (Nat.le_of_ble_eq_true rfl) (Nat.le_of_ble_eq_true rfl) rfl rfl (Nat.le_of_ble_eq_true rfl) hf (fun hs => uX9_init (by omega) (by omega) hs) (fun c118 hf => ?_)
  show mG _ _ _ 113 958 _ _ _ (_, _, _, (n + 113, _))
  refine mk_tR (ti := 5) C rfl rfl rfl hf (fun c119 hf => ?_)
  refine mg_iinc (v := 26) (lv' := [(0, .ref v0), (1, .int (26 : Int32))]) C rfl (Nat.le_of_ble_eq_true rfl) rfl (by decide) rfl ?_
  refine mg_goto C rfl ?_
  refine mg_iload_n C rfl rfl ?_
  refine mg_bipush (v := 40) C rfl (by decide) ?_
  refine mg_icmp_ge C rfl (fun h => absurd h (by decide)) (fun _ => ?_)
  refine mg_aload_n C rfl rfl ?_
  refine mk_gR C rfl rfl rfl (by decide) hf (fun x120 hf => ?_)
  refine mg_iload_n C rfl rfl ?_
  refine mk_new C rfl rfl rfl wo_in9 wo_it9 dfl_9 hRm (Nat.le_of_ble_eq_true rfl) (Nat.le_of_ble_eq_true rfl) (by omega) hf (fun c121 hf => ?_)
  show mG _ _ _ 114 967 _ _ _ (_, _, _, (n + 114, _))
  refine mg_dup C rfl rfl ?_
  refine mk_cN (M' := qX9_init) (d' := d - 1) (mc' := 3) (ms' := 24) (m' := n + 117) (host := "CloudTakes") C rfl (by decide) aX9_init iX9_init rfl rfl hRm (by omega) (by decide) (Nat.le_of_ble_eq_true rfl) (Nat.le_of_ble_eq_true rfl) rfl rfl (Nat.le_of_ble_eq_true rfl) hf (fun hs => uX9_init (by omega) (by omega) hs) (fun c122 hf => ?_)
  show mG _ _ _ 117 991 _ _ _ (_, _, _, (n + 117, _))
  refine mk_tR (ti := 5) C rfl rfl rfl hf (fun c123 hf => ?_)
  refine mg_iinc (v := 27) (lv' := [(0, .ref v0), (1, .int (27 : Int32))]) C rfl (Nat.le_of_ble_eq_true rfl) rfl (by decide) rfl ?_
  refine mg_goto C rfl ?_
  refine mg_iload_n C rfl rfl ?_
  refine mg_bipush (v := 40) C rfl (by decide) ?_
  refine mg_icmp_ge C rfl (fun h => absurd h (by decide)) (fun _ => ?_)
  refine mg_aload_n C rfl rfl ?_
  refine mk_gR C rfl rfl rfl (by decide) hf (fun x124 hf => ?_)
  refine mg_iload_n C rfl rfl ?_
  refine mk_new C rfl rfl rfl wo_in9 wo_it9 dfl_9 hRm (Nat.le_of_ble_eq_true rfl) (Nat.le_of_ble_eq_true rfl) (by omega) hf (fun c125 hf => ?_)
  show mG _ _ _ 118 1000 _ _ _ (_, _, _, (n + 118, _))
  refine mg_dup C rfl rfl ?_
  refine mk_cN (M' := qX9_init) (d' := d - 1) (mc' := 3) (ms' := 24) (m' := n + 121) (host := "CloudTakes") C rfl (by decide) aX9_init iX9_init rfl rfl hRm (by omega) (by decide) (Nat.le_of_ble_eq_true rfl) (Nat.le_of_ble_eq_true rfl) rfl rfl (Nat.le_of_ble_eq_true rfl) hf (fun hs => uX9_init (by omega) (by omega) hs) (fun c126 hf => ?_)
  show mG _ _ _ 121 1024 _ _ _ (_, _, _, (n + 121, _))
  refine mk_tR (ti := 5) C rfl rfl rfl hf (fun c127 hf => ?_)
  refine mg_iinc (v := 28) (lv' := [(0, .ref v0), (1, .int (28 : Int32))]) C rfl (Nat.le_of_ble_eq_true rfl) rfl (by decide) rfl ?_
  refine mg_goto C rfl ?_
  refine mg_iload_n C rfl rfl ?_
  refine mg_bipush (v := 40) C rfl (by decide) ?_
  refine mg_icmp_ge C rfl (fun h => absurd h (by decide)) (fun _ => ?_)
  refine mg_aload_n C rfl rfl ?_
  refine mk_gR C rfl rfl rfl (by decide) hf (fun x128 hf => ?_)
  refine mg_iload_n C rfl rfl ?_
  refine mk_new C rfl rfl rfl wo_in9 wo_it9 dfl_9 hRm (Nat.le_of_ble_eq_true rfl) (Nat.le_of_ble_eq_true rfl) (by omega) hf (fun c129 hf => ?_)
  show mG _ _ _ 122 1033 _ _ _ (_, _, _, (n + 122, _))
  refine mg_dup C rfl rfl ?_
  refine mk_cN (M' := qX9_init) (d' := d - 1) (mc' := 3) (ms' := 24) (m' := n + 125) (host := "CloudTakes") C rfl (by decide) aX9_init iX9_init rfl rfl hRm (by omega) (by decide) (Nat.le_of_ble_eq_true rfl) (Nat.le_of_ble_eq_true rfl) rfl rfl (Nat.le_of_ble_eq_true rfl) hf (fun hs => uX9_init (by omega) (by omega) hs) (fun c130 hf => ?_)
  show mG _ _ _ 125 1057 _ _ _ (_, _, _, (n + 125, _))
  refine mk_tR (ti := 5) C rfl rfl rfl hf (fun c131 hf => ?_)
  refine mg_iinc (v := 29) (lv' := [(0, .ref v0), (1, .int (29 : Int32))]) C rfl (Nat.le_of_ble_eq_true rfl) rfl (by decide) rfl ?_
  refine mg_goto C rfl ?_
  refine mg_iload_n C rfl rfl ?_
  refine mg_bipush (v := 40) C rfl (by decide) ?_
  refine mg_icmp_ge C rfl (fun h => absurd h (by decide)) (fun _ => ?_)
  refine mg_aload_n C rfl rfl ?_
  refine mk_gR C rfl rfl rfl (by decide) hf (fun x132 hf => ?_)
  refine mg_iload_n C rfl rfl ?_
  refine mk_new C rfl rfl rfl wo_in9 wo_it9 dfl_9 hRm (Nat.le_of_ble_eq_true rfl) (Nat.le_of_ble_eq_true rfl) (by omega) hf (fun c133 hf => ?_)
  show mG _ _ _ 126 1066 _ _ _ (_, _, _, (n + 126, _))
  refine mg_dup C rfl rfl ?_
  refine mk_cN (M' := qX9_init) (d' := d - 1) (mc' := 3) (ms' := 24) (m' := n + 129) (host := "CloudTakes") C rfl (by decide) aX9_init iX9_init rfl rfl hRm (by omega) (by decide) (Nat.le_of_ble_eq_true rfl) (Nat.le_of_ble_eq_true rfl) rfl rfl (Nat.le_of_ble_eq_true rfl) hf (fun hs => uX9_init (by omega) (by omega) hs) (fun c134 hf => ?_)
  show mG _ _ _ 129 1090 _ _ _ (_, _, _, (n + 129, _))
  refine mk_tR (ti := 5) C rfl rfl rfl hf (fun c135 hf => ?_)
  refine mg_iinc (v := 30) (lv' := [(0, .ref v0), (1, .int (30 : Int32))]) C rfl (Nat.le_of_ble_eq_true rfl) rfl (by decide) rfl ?_
  refine mg_goto C rfl ?_
  refine mg_iload_n C rfl rfl ?_
  refine mg_bipush (v := 40) C rfl (by decide) ?_
  refine mg_icmp_ge C rfl (fun h => absurd h (by decide)) (fun _ => ?_)
  refine mg_aload_n C rfl rfl ?_
  refine mk_gR C rfl rfl rfl (by decide) hf (fun x136 hf => ?_)
  refine mg_iload_n C rfl rfl ?_
  refine mk_new C rfl rfl rfl wo_in9 wo_it9 dfl_9 hRm (Nat.le_of_ble_eq_true rfl) (Nat.le_of_ble_eq_true rfl) (by omega) hf (fun c137 hf => ?_)
  show mG _ _ _ 130 1099 _ _ _ (_, _, _, (n + 130, _))
  refine mg_dup C rfl rfl ?_
  refine mk_cN (M' := qX9_init) (d' := d - 1) (mc' := 3) (ms' := 24) (m' := n + 133) (host := "CloudTakes") C rfl (by decide) aX9_init iX9_init rfl rfl hRm (by omega) (by decide) (Nat.le_of_ble_eq_true rfl) (Nat.le_of_ble_eq_true rfl) rfl rfl (Nat.le_of_ble_eq_true rfl) hf (fun hs => uX9_init (by omega) (by omega) hs) (fun c138 hf => ?_)
  show mG _ _ _ 133 1123 _ _ _ (_, _, _, (n + 133, _))
  refine mk_tR (ti := 5) C rfl rfl rfl hf (fun c139 hf => ?_)
  refine mg_iinc (v := 31) (lv' := [(0, .ref v0), (1, .int (31 : Int32))]) C rfl (Nat.le_of_ble_eq_true rfl) rfl (by decide) rfl ?_
  refine mg_goto C rfl ?_
  refine mg_iload_n C rfl rfl ?_
  refine mg_bipush (v := 40) C rfl (by decide) ?_
  refine mg_icmp_ge C rfl (fun h => absurd h (by decide)) (fun _ => ?_)
  refine mg_aload_n C rfl rfl ?_
  refine mk_gR C rfl rfl rfl (by decide) hf (fun x140 hf => ?_)
  refine mg_iload_n C rfl rfl ?_
  refine mk_new C rfl rfl rfl wo_in9 wo_it9 dfl_9 hRm (Nat.le_of_ble_eq_true rfl) (Nat.le_of_ble_eq_true rfl) (by omega) hf (fun c141 hf => ?_)
  show mG _ _ _ 134 1132 _ _ _ (_, _, _, (n + 134, _))
  refine mg_dup C rfl rfl ?_
  refine mk_cN (M' := qX9_init) (d' := d - 1) (mc' := 3) (ms' := 24) (m' := n + 137) (host := "CloudTakes") C rfl (by decide) aX9_init iX9_init rfl rfl hRm (by omega) (by decide) (Nat.le_of_ble_eq_true rfl) (Nat.le_of_ble_eq_true rfl) rfl rfl (Nat.le_of_ble_eq_true rfl) hf (fun hs => uX9_init (by omega) (by omega) hs) (fun c142 hf => ?_)
  show mG _ _ _ 137 1156 _ _ _ (_, _, _, (n + 137, _))
  refine mk_tR (ti := 5) C rfl rfl rfl hf (fun c143 hf => ?_)
  refine mg_iinc (v := 32) (lv' := [(0, .ref v0), (1, .int (32 : Int32))]) C rfl (Nat.le_of_ble_eq_true rfl) rfl (by decide) rfl ?_
  refine mg_goto C rfl ?_
  refine mg_iload_n C rfl rfl ?_
  refine mg_bipush (v := 40) C rfl (by decide) ?_
  refine mg_icmp_ge C rfl (fun h => absurd h (by decide)) (fun _ => ?_)
  refine mg_aload_n C rfl rfl ?_
  refine mk_gR C rfl rfl rfl (by decide) hf (fun x144 hf => ?_)
  refine mg_iload_n C rfl rfl ?_
  refine mk_new C rfl rfl rfl wo_in9 wo_it9 dfl_9 hRm (Nat.le_of_ble_eq_true rfl) (Nat.le_of_ble_eq_true rfl) (by omega) hf (fun c145 hf => ?_)
  show mG _ _ _ 138 1165 _ _ _ (_, _, _, (n + 138, _))
  refine mg_dup C rfl rfl ?_
  refine mk_cN (M' := qX9_init) (d' := d - 1) (mc' := 3) (ms' := 24) (m' := n + 141) (host := "CloudTakes") C rfl (by decide) aX9_init iX9_init rfl rfl hRm (by omega) (by decide) (Nat.le_of_ble_eq_true rfl) (Nat.le_of_ble_eq_true rfl) rfl rfl (Nat.le_of_ble_eq_true rfl) hf (fun hs => uX9_init (by omega) (by omega) hs) (fun c146 hf => ?_)
  show mG _ _ _ 141 1189 _ _ _ (_, _, _, (n + 141, _))
  refine mk_tR (ti := 5) C rfl rfl rfl hf (fun c147 hf => ?_)
  refine mg_iinc (v := 33) (lv' := [(0, .ref v0), (1, .int (33 : Int32))]) C rfl (Nat.le_of_ble_eq_true rfl) rfl (by decide) rfl ?_
  refine mg_goto C rfl ?_
  refine mg_iload_n C rfl rfl ?_
  refine mg_bipush (v := 40) C rfl (by decide) ?_
  refine mg_icmp_ge C rfl (fun h => absurd h (by decide)) (fun _ => ?_)
  refine mg_aload_n C rfl rfl ?_
  refine mk_gR C rfl rfl rfl (by decide) hf (fun x148 hf => ?_)
  refine mg_iload_n C rfl rfl ?_
  refine mk_new C rfl rfl rfl wo_in9 wo_it9 dfl_9 hRm (Nat.le_of_ble_eq_true rfl) (Nat.le_of_ble_eq_true rfl) (by omega) hf (fun c149 hf => ?_)
  show mG _ _ _ 142 1198 _ _ _ (_, _, _, (n + 142, _))
  refine mg_dup C rfl rfl ?_
  refine mk_cN (M' := qX9_init) (d' := d - 1) (mc' := 3) (ms' := 24) (m' := n + 145) (host := "CloudTakes") C rfl (by decide) aX9_init iX9_init rfl rfl hRm (by omega) (by decide) (Nat.le_of_ble_eq_true rfl) (Nat.le_of_ble_eq_true rfl) rfl rfl (Nat.le_of_ble_eq_true rfl) hf (fun hs => uX9_init (by omega) (by omega) hs) (fun c150 hf => ?_)
  show mG _ _ _ 145 1222 _ _ _ (_, _, _, (n + 145, _))
  refine mk_tR (ti := 5) C rfl rfl rfl hf (fun c151 hf => ?_)
  refine mg_iinc (v := 34) (lv' := [(0, .ref v0), (1, .int (34 : Int32))]) C rfl (Nat.le_of_ble_eq_true rfl) rfl (by decide) rfl ?_
  refine mg_goto C rfl ?_
  refine mg_iload_n C rfl rfl ?_
  refine mg_bipush (v := 40) C rfl (by decide) ?_
  refine mg_icmp_ge C rfl (fun h => absurd h (by decide)) (fun _ => ?_)
  refine mg_aload_n C rfl rfl ?_
  refine mk_gR C rfl rfl rfl (by decide) hf (fun x152 hf => ?_)
  refine mg_iload_n C rfl rfl ?_
  refine mk_new C rfl rfl rfl wo_in9 wo_it9 dfl_9 hRm (Nat.le_of_ble_eq_true rfl) (Nat.le_of_ble_eq_true rfl) (by omega) hf (fun c153 hf => ?_)
  show mG _ _ _ 146 1231 _ _ _ (_, _, _, (n + 146, _))
  refine mg_dup C rfl rfl ?_
  refine mk_cN (M' := qX9_init) (d' := d - 1) (mc' := 3) (ms' := 24) (m' := n + 149) (host := "CloudTakes") C rfl (by decide) aX9_init iX9_init rfl rfl hRm (by omega) (by decide) (Nat.le_of_ble_eq_true rfl) (Nat.le_of_ble_eq_true rfl) rfl rfl (Nat.le_of_ble_eq_true rfl) hf (fun hs => uX9_init (by omega) (by omega) hs) (fun c154 hf => ?_)
  show mG _ _ _ 149 1255 _ _ _ (_, _, _, (n + 149, _))
  refine mk_tR (ti := 5) C rfl rfl rfl hf (fun c155 hf => ?_)
  refine mg_iinc (v := 35) (lv' := [(0, .ref v0), (1, .int (35 : Int32))]) C rfl (Nat.le_of_ble_eq_true rfl) rfl (by decide) rfl ?_
  refine mg_goto C rfl ?_
  refine mg_iload_n C rfl rfl ?_
  refine mg_bipush (v := 40) C rfl (by decide) ?_
  refine mg_icmp_ge C rfl (fun h => absurd h (by decide)) (fun _ => ?_)
  refine mg_aload_n C rfl rfl ?_
  refine mk_gR C rfl rfl rfl (by decide) hf (fun x156 hf => ?_)
  refine mg_iload_n C rfl rfl ?_
  refine mk_new C rfl rfl rfl wo_in9 wo_it9 dfl_9 hRm (Nat.le_of_ble_eq_true rfl) (Nat.le_of_ble_eq_true rfl) (by omega) hf (fun c157 hf => ?_)
  show mG _ _ _ 150 1264 _ _ _ (_, _, _, (n + 150, _))
  refine mg_dup C rfl rfl ?_
  refine mk_cN (M' := qX9_init) (d' := d - 1) (mc' := 3) (ms' := 24) (m' := n + 153) (host := "CloudTakes") C rfl (by decide) aX9_init iX9_init rfl rfl hRm (by omega) (by decide) (Nat.le_of_ble_eq_true rfl) (Nat.le_of_ble_eq_true rfl) rfl rfl (Nat.le_of_ble_eq_true rfl) hf (fun hs => uX9_init (by omega) (by omega) hs) (fun c158 hf => ?_)
  show mG _ _ _ 153 1288 _ _ _ (_, _, _, (n + 153, _))
  refine mk_tR (ti := 5) C rfl rfl rfl hf (fun c159 hf => ?_)
  refine mg_iinc (v := 36) (lv' := [(0, .ref v0), (1, .int (36 : Int32))]) C rfl (Nat.le_of_ble_eq_true rfl) rfl (by decide) rfl ?_
  refine mg_goto C rfl ?_
  refine mg_iload_n C rfl rfl ?_
  refine mg_bipush (v := 40) C rfl (by decide) ?_
  refine mg_icmp_ge C rfl (fun h => absurd h (by decide)) (fun _ => ?_)
  refine mg_aload_n C rfl rfl ?_
  refine mk_gR C rfl rfl rfl (by decide) hf (fun x160 hf => ?_)
  refine mg_iload_n C rfl rfl ?_
  refine mk_new C rfl rfl rfl wo_in9 wo_it9 dfl_9 hRm (Nat.le_of_ble_eq_true rfl) (Nat.le_of_ble_eq_true rfl) (by omega) hf (fun c161 hf => ?_)
  show mG _ _ _ 154 1297 _ _ _ (_, _, _, (n + 154, _))
  refine mg_dup C rfl rfl ?_
  refine mk_cN (M' := qX9_init) (d' := d - 1) (mc' := 3) (ms' := 24) (m' := n + 157) (host := "CloudTakes") C rfl (by decide) aX9_init iX9_init rfl rfl hRm (by omega) (by decide) (Nat.le_of_ble_eq_true rfl) (Nat.le_of_ble_eq_true rfl) rfl rfl (Nat.le_of_ble_eq_true rfl) hf (fun hs => uX9_init (by omega) (by omega) hs) (fun c162 hf => ?_)
  show mG _ _ _ 157 1321 _ _ _ (_, _, _, (n + 157, _))
  refine mk_tR (ti := 5) C rfl rfl rfl hf (fun c163 hf => ?_)
  refine mg_iinc (v := 37) (lv' := [(0, .ref v0), (1, .int (37 : Int32))]) C rfl (Nat.le_of_ble_eq_true rfl) rfl (by decide) rfl ?_
  refine mg_goto C rfl ?_
  refine mg_iload_n C rfl rfl ?_
  refine mg_bipush (v := 40) C rfl (by decide) ?_
  refine mg_icmp_ge C rfl (fun h => absurd h (by decide)) (fun _ => ?_)
  refine mg_aload_n C rfl rfl ?_
  refine mk_gR C rfl rfl rfl (by decide) hf (fun x164 hf => ?_)
  refine mg_iload_n C rfl rfl ?_
  refine mk_new C rfl rfl rfl wo_in9 wo_it9 dfl_9 hRm (Nat.le_of_ble_eq_true rfl) (Nat.le_of_ble_eq_true rfl) (by omega) hf (fun c165 hf => ?_)
  show mG _ _ _ 158 1330 _ _ _ (_, _, _, (n + 158, _))
  refine mg_dup C rfl rfl ?_
  refine mk_cN (M' := qX9_init) (d' := d - 1) (mc' := 3) (ms' := 24) (m' := n + 161) (host := "CloudTakes") C rfl (by decide) aX9_init iX9_init rfl rfl hRm (by omega) (by decide) (Nat.le_of_ble_eq_true rfl) (Nat.le_of_ble_eq_true rfl) rfl rfl (Nat.le_of_ble_eq_true rfl) hf (fun hs => uX9_init (by omega) (by omega) hs) (fun c166 hf => ?_)
  show mG _ _ _ 161 1354 _ _ _ (_, _, _, (n + 161, _))
  refine mk_tR (ti := 5) C rfl rfl rfl hf (fun c167 hf => ?_)
  refine mg_iinc (v := 38) (lv' := [(0, .ref v0), (1, .int (38 : Int32))]) C rfl (Nat.le_of_ble_eq_true rfl) rfl (by decide) rfl ?_
  refine mg_goto C rfl ?_
  refine mg_iload_n C rfl rfl ?_
  refine mg_bipush (v := 40) C rfl (by decide) ?_
  refine mg_icmp_ge C rfl (fun h => absurd h (by decide)) (fun _ => ?_)
  refine mg_aload_n C rfl rfl ?_
  refine mk_gR C rfl rfl rfl (by decide) hf (fun x168 hf => ?_)
  refine mg_iload_n C rfl rfl ?_
  refine mk_new C rfl rfl rfl wo_in9 wo_it9 dfl_9 hRm (Nat.le_of_ble_eq_true rfl) (Nat.le_of_ble_eq_true rfl) (by omega) hf (fun c169 hf => ?_)
  show mG _ _ _ 162 1363 _ _ _ (_, _, _, (n + 162, _))
  refine mg_dup C rfl rfl ?_
  refine mk_cN (M' := qX9_init) (d' := d - 1) (mc' := 3) (ms' := 24) (m' := n + 165) (host := "CloudTakes") C rfl (by decide) aX9_init iX9_init rfl rfl hRm (by omega) (by decide) (Nat.le_of_ble_eq_true rfl) (Nat.le_of_ble_eq_true rfl) rfl rfl (Nat.le_of_ble_eq_true rfl) hf (fun hs => uX9_init (by omega) (by omega) hs) (fun c170 hf => ?_)
  show mG _ _ _ 165 1387 _ _ _ (_, _, _, (n + 165, _))
  refine mk_tR (ti := 5) C rfl rfl rfl hf (fun c171 hf => ?_)
  refine mg_iinc (v := 39) (lv' := [(0, .ref v0), (1, .int (39 : Int32))]) C rfl (Nat.le_of_ble_eq_true rfl) rfl (by decide) rfl ?_
  refine mg_goto C rfl ?_
  refine mg_iload_n C rfl rfl ?_
  refine mg_bipush (v := 40) C rfl (by decide) ?_
  refine mg_icmp_ge C rfl (fun h => absurd h (by decide)) (fun _ => ?_)
  refine mg_aload_n C rfl rfl ?_
  refine mk_gR C rfl rfl rfl (by decide) hf (fun x172 hf => ?_)
  refine mg_iload_n C rfl rfl ?_
  refine mk_new C rfl rfl rfl wo_in9 wo_it9 dfl_9 hRm (Nat.le_of_ble_eq_true rfl) (Nat.le_of_ble_eq_true rfl) (by omega) hf (fun c173 hf => ?_)
  show mG _ _ _ 166 1396 _ _ _ (_, _, _, (n + 166, _))
  refine mg_dup C rfl rfl ?_
  refine mk_cN (M' := qX9_init) (d' := d - 1) (mc' := 3) (ms' := 24) (m' := n + 169) (host := "CloudTakes") C rfl (by decide) aX9_init iX9_init rfl rfl hRm (by omega) (by decide) (Nat.le_of_ble_eq_true rfl) (Nat.le_of_ble_eq_true rfl) rfl rfl (Nat.le_of_ble_eq_true rfl) hf (fun hs => uX9_init (by omega) (by omega) hs) (fun c174 hf => ?_)
  show mG _ _ _ 169 1420 _ _ _ (_, _, _, (n + 169, _))
  refine mk_tR (ti := 5) C rfl rfl rfl hf (fun c175 hf => ?_)
  refine mg_iinc (v := 40) (lv' := [(0, .ref v0), (1, .int (40 : Int32))]) C rfl (Nat.le_of_ble_eq_true rfl) rfl (by decide) rfl ?_
  refine mg_goto C rfl ?_
  refine mg_iload_n C rfl rfl ?_
  refine mg_bipush (v := 40) C rfl (by decide) ?_
  refine mg_icmp_ge C rfl (fun _ => ?_) (fun h => absurd (by decide) h)
  exact mk_return C rfl (Nat.le_of_ble_eq_true rfl) (Nat.le_of_ble_eq_true rfl) rfl hf
