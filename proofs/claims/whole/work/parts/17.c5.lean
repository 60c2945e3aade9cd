/- needs: 15.acall 15.fun 15.hctor  -/
def nX12_init (n : Nat) (v0 : Nat) (c : mm_C) : Option mm_C :=
  Option.bind (mkR c n "java/lang/String" 3) fun c1 => Option.bind (tS c1 n (0 : Int32) (1000000 + 20)) fun c2 => Option.bind (tS c2 n (1 : Int32) (1000000 + 21)) fun c3 => Option.bind (tS c3 n (2 : Int32) (1000000 + 22)) fun c4 => Option.bind (pR c4 v0 12 0 n) fun c5 => Option.bind (mkR c5 (n + 1) "java/lang/String" 8) fun c6 => Option.bind (tS c6 (n + 1) (0 : Int32) (1000000 + 23)) fun c7 => Option.bind (tS c7 (n + 1) (1 : Int32) (1000000 + 24)) fun c8 => Option.bind (tS c8 (n + 1) (2 : Int32) (1000000 + 25)) fun c9 => Option.bind (tS c9 (n + 1) (3 : Int32) (1000000 + 26)) fun c10 => Option.bind (tS c10 (n + 1) (4 : Int32) (1000000 + 27)) fun c11 => Option.bind (tS c11 (n + 1) (5 : Int32) (1000000 + 28)) fun c12 => Option.bind (tS c12 (n + 1) (6 : Int32) (1000000 + 29)) fun c13 => Option.bind (tS c13 (n + 1) (7 : Int32) (1000000 + 30)) fun c14 => Option.bind (pR c14 v0 12 1 (n + 1)) fun c15 => Option.bind (mkA c15 (n + 2) .int 16) fun c16 => Option.bind (tI c16 (n + 2) (0 : Int32) (0 : Int32)) fun c17 => Option.bind (tI c17 (n + 2) (1 : Int32) (240 : Int32)) fun c18 => Option.bind (tI c18 (n + 2) (2 : Int32) (50 : Int32)) fun c19 => Option.bind (tI c19 (n + 2) (3 : Int32) (1 : Int32)) fun c20 => Option.bind (tI c20 (n + 2) (4 : Int32) (0 : Int32)) fun c21 => Option.bind (tI c21 (n + 2) (5 : Int32) (0 : Int32)) fun c22 => Option.bind (tI c22 (n + 2) (6 : Int32) (0 : Int32)) fun c23 => Option.bind (tI c23 (n + 2) (7 : Int32) (0 : Int32)) fun c24 => Option.bind (tI c24 (n + 2) (8 : Int32) (0 : Int32)) fun c25 => Option.bind (tI c25 (n + 2) (9 : Int32) (240 : Int32)) fun c26 => Option.bind (tI c26 (n + 2) (10 : Int32) (50 : Int32)) fun c27 => Option.bind (tI c27 (n + 2) (11 : Int32) (1 : Int32)) fun c28 => Option.bind (tI c28 (n + 2) (12 : Int32) (0 : Int32)) fun c29 => Option.bind (tI c29 (n + 2) (13 : Int32) (0 : Int32)) fun c30 => Option.bind (tI c30 (n + 2) (14 : Int32) (0 : Int32)) fun c31 => Option.bind (tI c31 (n + 2) (15 : Int32) (0 : Int32)) fun c32 => Option.bind (pR c32 v0 12 3 (n + 2)) fun c33 => Option.bind (mkA c33 (n + 3) .int 16) fun c34 => Option.bind (pR c34 v0 12 4 (n + 3)) fun c35 => Option.bind (mkA c35 (n + 4) .int 16) fun c36 => Option.bind (pR c36 v0 12 5 (n + 4)) fun c37 => Option.bind (mkA c37 (n + 5) .int 16) fun c38 => Option.bind (pR c38 v0 12 6 (n + 5)) fun c39 => Option.bind (mkA c39 (n + 6) .int 16) fun c40 => Option.bind (pR c40 v0 12 7 (n + 6)) fun c41 => Option.bind (mkA c41 (n + 7) .int 16) fun c42 => Option.bind (pR c42 v0 12 8 (n + 7)) fun c43 => Option.bind (mkA c43 (n + 8) .int 16) fun c44 => Option.bind (pR c44 v0 12 9 (n + 8)) fun c45 => Option.bind (mkA c45 (n + 9) .int 960) fun c46 => Option.bind (pR c46 v0 12 10 (n + 9)) fun c47 => Option.bind (mkA c47 (n + 10) .int 8) fun c48 => Option.bind (pR c48 v0 12 11 (n + 10)) fun c49 => Option.bind (mkA c49 (n + 11) .int 8) fun c50 => Option.bind (pR c50 v0 12 12 (n + 11)) fun c51 => Option.bind (mkA c51 (n + 12) .int 1400) fun c52 => Option.bind (pR c52 v0 12 13 (n + 12)) fun c53 => Option.bind (mkA c53 (n + 13) .int 3) fun c54 => Option.bind (pR c54 v0 12 14 (n + 13)) fun c55 => Option.bind (mkA c55 (n + 14) .int 700) fun c56 => Option.bind (pR c56 v0 12 15 (n + 14)) fun c57 => Option.bind (pI c57 v0 12 25 (-1 : Int32)) fun c58 => Option.bind (mkA c58 (n + 15) .int 15) fun c59 => Option.bind (pR c59 v0 12 26 (n + 15)) fun c60 => Option.bind (mkA c60 (n + 16) .int 1240) fun c61 => Option.bind (pR c61 v0 12 27 (n + 16)) fun c62 => Option.bind (pI c62 v0 12 30 (240 : Int32)) fun c63 => Option.bind (mkA c63 (n + 17) .int 8) fun c64 => Option.bind (pR c64 v0 12 31 (n + 17)) fun c65 => Option.bind (mkA c65 (n + 18) .int 64) fun c66 => Option.bind (pR c66 v0 12 32 (n + 18)) fun c67 => Option.bind (mkA c67 (n + 19) .int 15) fun c68 => Option.bind (pR c68 v0 12 33 (n + 19)) fun c69 => Option.bind (mkA c69 (n + 20) .int 8) fun c70 => Option.bind (pR c70 v0 12 34 (n + 20)) fun c71 => Option.bind (mkA c71 (n + 21) .int 512) fun c72 => Option.bind (pR c72 v0 12 41 (n + 21)) fun c73 => Option.bind (mkA c73 (n + 22) .int 8) fun c74 => Option.bind (pR c74 v0 12 44 (n + 22)) fun c75 => Option.bind (mkA c75 (n + 23) .int 8) fun c76 => Option.bind (pR c76 v0 12 47 (n + 23)) fun c77 => Option.bind (mkA c77 (n + 24) .int 8) fun c78 => Option.bind (pR c78 v0 12 48 (n + 24)) fun c79 => Option.bind (mkA c79 (n + 25) .int 8) fun c80 => Option.bind (pR c80 v0 12 49 (n + 25)) fun c81 => Option.bind (mkA c81 (n + 26) .int 31) fun c82 => Option.bind (pR c82 v0 12 51 (n + 26)) fun c83 => Option.bind (mkA c83 (n + 27) .int 31) fun c84 => Option.bind (pR c84 v0 12 55 (n + 27)) fun c85 => Option.bind (mkA c85 (n + 28) .int 1240) fun c86 => Option.bind (pR c86 v0 12 56 (n + 28)) fun c87 => Option.bind (mkA c87 (n + 29) .int 8) fun c88 => Option.bind (pR c88 v0 12 57 (n + 29)) fun c89 => Option.bind (mkA c89 (n + 30) .int 8) fun c90 => Option.bind (pR c90 v0 12 58 (n + 30)) fun c91 => Option.bind (mkA c91 (n + 31) .int 8) fun c92 => Option.bind (pR c92 v0 12 59 (n + 31)) fun c93 => Option.bind (mkA c93 (n + 32) .int 3) fun c94 => Option.bind (pR c94 v0 12 60 (n + 32)) fun c95 => some c95
set_option maxRecDepth 100000 in
set_option maxHeartbeats 4000000 in
theorem uX12_init {Z : mm_Z} {d n : Nat} (hd : 1 ≤ d) (hn : n + 33 < 1000000) {v0 : Nat} {c : mm_C} (hs : (nX12_init n v0 c).isSome = true) : mC Z qX12_init d 33 6425 [.ref v0] (n, c) (mB (n + 33) (nX12_init n v0 c)) := by
  refine mC_of gX12_init (by decide +kernel) (Nat.le_of_ble_eq_true rfl) fun X C hRm => ?_
  have hf := hB_mB (n + 33) hs
  generalize mB (n + 33) (nX12_init n v0 c) = Q at hf ⊢
  unfold nX12_init at hf
  show mG _ _ _ 0 0 _ _ _ (0, [(0, .ref v0)], [], (n, c))
  refine mg_aload_n C rfl rfl ?_
  refine mg_objInit C rfl rfl wo_inst wo_code hRm (by omega) (Nat.le_of_ble_eq_true rfl) ?_
  refine mg_aload_n C rfl rfl ?_
  refine mg_iconst (v := 3) C rfl (by decide) ?_
  refine mk_newR (N := 3) (ti := 6) C rfl rfl (fun h => h.2.2.2.2.2.2.1) rfl (by decide) (by decide) (by decide) hRm (Nat.le_of_ble_eq_true rfl) (Nat.le_of_ble_eq_true rfl) (by omega) hf (fun c1 hf => ?_)
  show mG _ _ _ 1 3 _ _ _ (_, _, _, (n + 1, _))
  refine mg_dup C rfl rfl ?_
  refine mg_iconst (v := 0) C rfl (by decide) ?_
  refine mg_ldcS (i := 20) (tx := "wide") C rfl (by decide) ?_
  refine mk_tS C rfl hf (fun c2 hf => ?_)
  refine mg_dup C rfl rfl ?_
  refine mg_iconst (v := 1) C rfl (by decide) ?_
  refine mg_ldcS (i := 21) (tx := "near") C rfl (by decide) ?_
  refine mk_tS C rfl hf (fun c3 hf => ?_)
  refine mg_dup C rfl rfl ?_
  refine mg_iconst (v := 2) C rfl (by decide) ?_
  refine mg_ldcS (i := 22) (tx := "inside") C rfl (by decide) ?_
  refine mk_tS C rfl hf (fun c4 hf => ?_)
  refine mk_pRf C rfl rfl rfl (by decide) rfl rfl rfl rfl rfl hf (fun c5 hf => ?_)
  refine mg_aload_n C rfl rfl ?_
  refine mg_bipush (v := 8) C rfl (by decide) ?_
  refine mk_newR (N := 8) (ti := 6) C rfl rfl (fun h => h.2.2.2.2.2.2.1) rfl (by decide) (by decide) (by decide) hRm (Nat.le_of_ble_eq_true rfl) (Nat.le_of_ble_eq_true rfl) (by omega) hf (fun c6 hf => ?_)
  show mG _ _ _ 2 11 _ _ _ (_, _, _, (n + 2, _))
  refine mg_dup C rfl rfl ?_
  refine mg_iconst (v := 0) C rfl (by decide) ?_
  refine mg_ldcS (i := 23) (tx := "length") C rfl (by decide) ?_
  refine mk_tS C rfl hf (fun c7 hf => ?_)
  refine mg_dup C rfl rfl ?_
  refine mg_iconst (v := 1) C rfl (by decide) ?_
  refine mg_ldcS (i := 24) (tx := "kind") C rfl (by decide) ?_
  refine mk_tS C rfl hf (fun c8 hf => ?_)
  refine mg_dup C rfl rfl ?_
  refine mg_iconst (v := 2) C rfl (by decide) ?_
  refine mg_ldcS (i := 25) (tx := "light") C rfl (by decide) ?_
  refine mk_tS C rfl hf (fun c9 hf => ?_)
  refine mg_dup C rfl rfl ?_
  refine mg_iconst (v := 3) C rfl (by decide) ?_
  refine mg_ldcS (i := 26) (tx := "left") C rfl (by decide) ?_
  refine mk_tS C rfl hf (fun c10 hf => ?_)
  refine mg_dup C rfl rfl ?_
  refine mg_iconst (v := 4) C rfl (by decide) ?_
  refine mg_ldcS (i := 27) (tx := "until") C rfl (by decide) ?_
  refine mk_tS C rfl hf (fun c11 hf => ?_)
  refine mg_dup C rfl rfl ?_
  refine mg_iconst (v := 5) C rfl (by decide) ?_
  refine mg_ldcS (i := 28) (tx := "hour") C rfl (by decide) ?_
  refine mk_tS C rfl hf (fun c12 hf => ?_)
  refine mg_dup C rfl rfl ?_
  refine mg_bipush (v := 6) C rfl (by decide) ?_
  refine mg_ldcS (i := 29) (tx := "waited") C rfl (by decide) ?_
  refine mk_tS C rfl hf (fun c13 hf => ?_)
  refine mg_dup C rfl rfl ?_
  refine mg_bipush (v := 7) C rfl (by decide) ?_
  refine mg_ldcS (i := 30) (tx := "tries") C rfl (by decide) ?_
  refine mk_tS C rfl hf (fun c14 hf => ?_)
  refine mk_pRf C rfl rfl rfl (by decide) rfl rfl rfl rfl rfl hf (fun c15 hf => ?_)
  refine mg_aload_n C rfl rfl ?_
  refine mg_bipush (v := 16) C rfl (by decide) ?_
  refine mk_newI (N := 16) (ti := 0) C rfl rfl rfl wo_arint (by decide) (by decide) (by decide) (by decide) hRm (Nat.le_of_ble_eq_true rfl) (Nat.le_of_ble_eq_true rfl) (by omega) hf (fun c16 hf => ?_)
  show mG _ _ _ 3 27 _ _ _ (_, _, _, (n + 3, _))
  refine mg_dup C rfl rfl ?_
  refine mg_iconst (v := 0) C rfl (by decide) ?_
  refine mg_iconst (v := 0) C rfl (by decide) ?_
  refine mk_tI C rfl hf (fun c17 hf => ?_)
  refine mg_dup C rfl rfl ?_
  refine mg_iconst (v := 1) C rfl (by decide) ?_
  refine mg_sipush (v := 240) C rfl (by decide) ?_
  refine mk_tI C rfl hf (fun c18 hf => ?_)
  refine mg_dup C rfl rfl ?_
  refine mg_iconst (v := 2) C rfl (by decide) ?_
  refine mg_bipush (v := 50) C rfl (by decide) ?_
  refine mk_tI C rfl hf (fun c19 hf => ?_)
  refine mg_dup C rfl rfl ?_
  refine mg_iconst (v := 3) C rfl (by decide) ?_
  refine mg_iconst (v := 1) C rfl (by decide) ?_
  refine mk_tI C rfl hf (fun c20 hf => ?_)
  refine mg_dup C rfl rfl ?_
  refine mg_iconst (v := 4) C rfl (by decide) ?_
  refine mg_iconst (v := 0) C rfl (by decide) ?_
  refine mk_tI C rfl hf (fun c21 hf => ?_)
  refine mg_dup C rfl rfl ?_
  refine mg_iconst (v := 5) C rfl (by decide) ?_
  refine mg_iconst (v := 0) C rfl (by decide) ?_
  refine mk_tI C rfl hf (fun c22 hf => ?_)
  refine mg_dup C rfl rfl ?_
  refine mg_bipush (v := 6) C rfl (by decide) ?_
  refine mg_iconst (v := 0) C rfl (by decide) ?_
  refine mk_tI C rfl hf (fun c23 hf => ?_)
  refine mg_dup C rfl rfl ?_
  refine mg_bipush (v := 7) C rfl (by decide) ?_
  refine mg_iconst (v := 0) C rfl (by decide) ?_
  refine mk_tI C rfl hf (fun c24 hf => ?_)
  refine mg_dup C rfl rfl ?_
  refine mg_bipush (v := 8) C rfl (by decide) ?_
  refine mg_iconst (v := 0) C rfl (by decide) ?_
  refine mk_tI C rfl hf (fun c25 hf => ?_)
  refine mg_dup C rfl rfl ?_
  refine mg_bipush (v := 9) C rfl (by decide) ?_
  refine mg_sipush (v := 240) C rfl (by decide) ?_
  refine mk_tI C rfl hf (fun c26 hf => ?_)
  refine mg_dup C rfl rfl ?_
  refine mg_bipush (v := 10) C rfl (by decide) ?_
  refine mg_bipush (v := 50) C rfl (by decide) ?_
  refine mk_tI C rfl hf (fun c27 hf => ?_)
  refine mg_dup C rfl rfl ?_
  refine mg_bipush (v := 11) C rfl (by decide) ?_
  refine mg_iconst (v := 1) C rfl (by decide) ?_
  refine mk_tI C rfl hf (fun c28 hf => ?_)
  refine mg_dup C rfl rfl ?_
  refine mg_bipush (v := 12) C rfl (by decide) ?_
  refine mg_iconst (v := 0) C rfl (by decide) ?_
  refine mk_tI C rfl hf (fun c29 hf => ?_)
  refine mg_dup C rfl rfl ?_
  refine mg_bipush (v := 13) C rfl (by decide) ?_
  refine mg_iconst (v := 0) C rfl (by decide) ?_
  refine mk_tI C rfl hf (fun c30 hf => ?_)
  refine mg_dup C rfl rfl ?_
  refine mg_bipush (v := 14) C rfl (by decide) ?_
  refine mg_iconst (v := 0) C rfl (by decide) ?_
  refine mk_tI C rfl hf (fun c31 hf => ?_)
  refine mg_dup C rfl rfl ?_
  refine mg_bipush (v := 15) C rfl (by decide) ?_
  refine mg_iconst (v := 0) C rfl (by decide) ?_
  refine mk_tI C rfl hf (fun c32 hf => ?_)
  refine mk_pRf C rfl rfl rfl (by decide) rfl rfl rfl rfl rfl hf (fun c33 hf => ?_)
  refine mg_aload_n C rfl rfl ?_
  refine mg_bipush (v := 16) C rfl (by decide) ?_
  refine mk_newI (N := 16) (ti := 0) C rfl rfl rfl wo_arint (by decide) (by decide) (by decide) (by decide) hRm (Nat.le_of_ble_eq_true rfl) (Nat.le_of_ble_eq_true rfl) (by omega) hf (fun c34 hf => ?_)
  show mG _ _ _ 4 43 _ _ _ (_, _, _, (n + 4, _))
  refine mk_pRf C rfl rfl rfl (by decide) rfl rfl rfl rfl rfl hf (fun c35 hf => ?_)
  refine mg_aload_n C rfl rfl ?_
  refine mg_bipush (v := 16) C rfl (by decide) ?_
  refine mk_newI (N := 16) (ti := 0) C rfl rfl rfl wo_arint (by decide) (by decide) (by decide) (by decide) hRm (Nat.le_of_ble_eq_true rfl) (Nat.le_of_ble_eq_true rfl) (by omega) hf (fun c36 hf => ?_)
  show mG _ _ _ 5 59 _ _ _ (_, _, _, (n + 5, _))
  refine mk_pRf C rfl rfl rfl (by decide) rfl rfl rfl rfl rfl hf (fun c37 hf => ?_)
  refine mg_aload_n C rfl rfl ?_
  refine mg_bipush (v := 16) C rfl (by decide) ?_
  refine mk_newI (N := 16) (ti := 0) C rfl rfl rfl wo_arint (by decide) (by decide) (by decide) (by decide) hRm (Nat.le_of_ble_eq_true rfl) (Nat.le_of_ble_eq_true rfl) (by omega) hf (fun c38 hf => ?_)
  show mG _ _ _ 6 75 _ _ _ (_, _, _, (n + 6, _))
  refine mk_pRf C rfl rfl rfl (by decide) rfl rfl rfl rfl rfl hf (fun c39 hf => ?_)
  refine mg_aload_n C rfl rfl ?_
  refine mg_bipush (v := 16) C rfl (by decide) ?_
  refine mk_newI (N := 16) (ti := 0) C rfl rfl rfl wo_arint (by decide) (by decide) (by decide) (by decide) hRm (Nat.le_of_ble_eq_true rfl) (Nat.le_of_ble_eq_true rfl) (by omega) hf (fun c40 hf => ?_)
  show mG _ _ _ 7 91 _ _ _ (_, _, _, (n + 7, _))
  refine mk_pRf C rfl rfl rfl (by decide) rfl rfl rfl rfl rfl hf (fun c41 hf => ?_)
  refine mg_aload_n C rfl rfl ?_
  refine mg_bipush (v := 16) C rfl (by decide) ?_
  refine mk_newI (N := 16) (ti := 0) C rfl rfl rfl wo_arint (by decide) (by decide) (by decide) (by decide) hRm (Nat.le_of_ble_eq_true rfl) (Nat.le_of_ble_eq_true rfl) (by omega) hf (fun c42 hf => ?_)
  show mG _ _ _ 8 107 _ _ _ (_, _, _, (n + 8, _))
  refine mk_pRf C rfl rfl rfl (by decide) rfl rfl rfl rfl rfl hf (fun c43 hf => ?_)
  refine mg_aload_n C rfl rfl ?_
  refine mg_bipush (v := 16) C rfl (by decide) ?_
  refine mk_newI (N := 16) (ti := 0) C rfl rfl rfl wo_arint (by decide) (by decide) (by decide) (by decide) hRm (Nat.le_of_ble_eq_true rfl) (Nat.le_of_ble_eq_true rfl) (by omega) hf (fun c44 hf => ?_)
  show mG _ _ _ 9 123 _ _ _ (_, _, _, (n + 9, _))
  refine mk_pRf C rfl rfl rfl (by decide) rfl rfl rfl rfl rfl hf (fun c45 hf => ?_)
  refine mg_aload_n C rfl rfl ?_
  refine mg_sipush (v := 960) C rfl (by decide) ?_
  refine mk_newI (N := 960) (ti := 0) C rfl rfl rfl wo_arint (by decide) (by decide) (by decide) (by decide) hRm (Nat.le_of_ble_eq_true rfl) (Nat.le_of_ble_eq_true rfl) (by omega) hf (fun c46 hf => ?_)
  show mG _ _ _ 10 1083 _ _ _ (_, _, _, (n + 10, _))
  refine mk_pRf C rfl rfl rfl (by decide) rfl rfl rfl rfl rfl hf (fun c47 hf => ?_)
  refine mg_aload_n C rfl rfl ?_
  refine mg_bipush (v := 8) C rfl (by decide) ?_
  refine mk_newI (N := 8) (ti := 0) C rfl rfl rfl wo_arint (by decide) (by decide) (by decide) (by decide) hRm (Nat.le_of_ble_eq_true rfl) (Nat.le_of_ble_eq_true rfl) (by omega) hf (fun c48 hf => ?_)
  show mG _ _ _ 11 1091 _ _ _ (_, _, _, (n + 11, _))
  refine mk_pRf C rfl rfl rfl (by decide) rfl rfl rfl rfl rfl hf (fun c49 hf => ?_)
  refine mg_aload_n C rfl rfl ?_
  refine mg_bipush (v := 8) C rfl (by decide) ?_
  refine mk_newI (N := 8) (ti := 0) C rfl rfl rfl wo_arint (by decide) (by decide) (by decide) (by decide) hRm (Nat.le_of_ble_eq_true rfl) (Nat.le_of_ble_eq_true rfl) (by omega) hf (fun c50 hf => ?_)
  show mG _ _ _ 12 1099 _ _ _ (_, _, _, (n + 12, _))
  refine mk_pRf C rfl rfl rfl (by decide) rfl rfl rfl rfl rfl hf (fun c51 hf => ?_)
  refine mg_aload_n C rfl rfl ?_
  refine mg_sipush (v := 1400) C rfl (by decide) ?_
  refine mk_newI (N := 1400) (ti := 0) C rfl rfl rfl wo_arint (by decide) (by decide) (by decide) (by decide) hRm (Nat.le_of_ble_eq_true rfl) (Nat.le_of_ble_eq_true rfl) (by omega) hf (fun c52 hf => ?_)
  show mG _ _ _ 13 2499 _ _ _ (_, _, _, (n + 13, _))
  refine mk_pRf C rfl rfl rfl (by decide) rfl rfl rfl rfl rfl hf (fun c53 hf => ?_)
  refine mg_aload_n C rfl rfl ?_
  refine mg_iconst (v := 3) C rfl (by decide) ?_
  refine mk_newI (N := 3) (ti := 0) C rfl rfl rfl wo_arint (by decide) (by decide) (by decide) (by decide) hRm (Nat.le_of_ble_eq_true rfl) (Nat.le_of_ble_eq_true rfl) (by omega) hf (fun c54 hf => ?_)
  show mG _ _ _ 14 2502 _ _ _ (_, _, _, (n + 14, _))
  refine mk_pRf C rfl rfl rfl (by decide) rfl rfl rfl rfl rfl hf (fun c55 hf => ?_)
  refine mg_aload_n C rfl rfl ?_
  refine mg_sipush (v := 700) C rfl (by decide) ?_
  refine mk_newI (N := 700) (ti := 0) C rfl rfl rfl wo_arint (by decide) (by decide) (by decide) (by decide) hRm (Nat.le_of_ble_eq_true rfl) (Nat.le_of_ble_eq_true rfl) (by omega) hf (fun c56 hf => ?_)
  show mG _ _ _ 15 3202 _ _ _ (_, _, _, (n + 15, _))
  refine mk_pRf C rfl rfl rfl (by decide) rfl rfl rfl rfl rfl hf (fun c57 hf => ?_)
  refine mg_aload_n C rfl rfl ?_
  refine mg_iconst (v := (-1)) C rfl (by decide) ?_
  refine mk_pI C rfl rfl rfl (by decide) rfl rfl rfl hf (fun c58 hf => ?_)
  refine mg_aload_n C rfl rfl ?_
  refine mg_bipush (v := 15) C rfl (by decide) ?_
  refine mk_newI (N := 15) (ti := 0) C rfl rfl rfl wo_arint (by decide) (by decide) (by decide) (by decide) hRm (Nat.le_of_ble_eq_true rfl) (Nat.le_of_ble_eq_true rfl) (by omega) hf (fun c59 hf => ?_)
  show mG _ _ _ 16 3217 _ _ _ (_, _, _, (n + 16, _))
  refine mk_pRf C rfl rfl rfl (by decide) rfl rfl rfl rfl rfl hf (fun c60 hf => ?_)
  refine mg_aload_n C rfl rfl ?_
  refine mg_sipush (v := 1240) C rfl (by decide) ?_
  refine mk_newI (N := 1240) (ti := 0) C rfl rfl rfl wo_arint (by decide) (by decide) (by decide) (by decide) hRm (Nat.le_of_ble_eq_true rfl) (Nat.le_of_ble_eq_true rfl) (by omega) hf (fun c61 hf => ?_)
  show mG _ _ _ 17 4457 _ _ _ (_, _, _, (n + 17, _))
  refine mk_pRf C rfl rfl rfl (by decide) rfl rfl rfl rfl rfl hf (fun c62 hf => ?_)
  refine mg_aload_n C rfl rfl ?_
  refine mg_sipush (v := 240) C rfl (by decide) ?_
  refine mk_pI C rfl rfl rfl (by decide) rfl rfl rfl hf (fun c63 hf => ?_)
  refine mg_aload_n C rfl rfl ?_
  refine mg_bipush (v := 8) C rfl (by decide) ?_
  refine mk_newI (N := 8) (ti := 0) C rfl rfl rfl wo_arint (by decide) (by decide) (by decide) (by decide) hRm (Nat.le_of_ble_eq_true rfl) (Nat.le_of_ble_eq_true rfl) (by omega) hf (fun c64 hf => ?_)
  show mG _ _ _ 18 4465 _ _ _ (_, _, _, (n + 18, _))
  refine mk_pRf C rfl rfl rfl (by decide) rfl rfl rfl rfl rfl hf (fun c65 hf => ?_)
  refine mg_aload_n C rfl rfl ?_
  refine mg_bipush (v := 64) C rfl (by decide) ?_
  refine mk_newI (N := 64) (ti := 0) C rfl rfl rfl wo_arint (by decide) (by decide) (by decide) (by decide) hRm (Nat.le_of_ble_eq_true rfl) (Nat.le_of_ble_eq_true rfl) (by omega) hf (fun c66 hf => ?_)
  show mG _ _ _ 19 4529 _ _ _ (_, _, _, (n + 19, _))
  refine mk_pRf C rfl rfl rfl (by decide) rfl rfl rfl rfl rfl hf (fun c67 hf => ?_)
  refine mg_aload_n C rfl rfl ?_
  refine mg_bipush (v := 15) C rfl (by decide) ?_
  refine mk_newI (N := 15) (ti := 0) C rfl rfl rfl wo_arint (by decide) (by decide) (by decide) (by decide) hRm (Nat.le_of_ble_eq_true rfl) (Nat.le_of_ble_eq_true rfl) (by omega) hf (fun c68 hf => ?_)
  show mG _ _ _ 20 4544 _ _ _ (_, _, _, (n + 20, _))
  refine mk_pRf C rfl rfl rfl (by decide) rfl rfl rfl rfl rfl hf (fun c69 hf => ?_)
  refine mg_aload_n C rfl rfl ?_
  refine mg_bipush (v := 8) C rfl (by decide) ?_
  refine mk_newI (N := 8) (ti := 0) C rfl rfl rfl wo_arint (by decide) (by decide) (by decide) (by decide) hRm (Nat.le_of_ble_eq_true rfl) (Nat.le_of_ble_eq_true rfl) (by omega) hf (fun c70 hf => ?_)
  show mG _ _ _ 21 4552 _ _ _ (_, _, _, (n + 21, _))
  refine mk_pRf C rfl rfl rfl (by decide) rfl rfl rfl rfl rfl hf (fun c71 hf => ?_)
  refine mg_aload_n C rfl rfl ?_
  refine mg_sipush (v := 512) C rfl (by decide) ?_
  refine mk_newI (N := 512) (ti := 0) C rfl rfl rfl wo_arint (by decide) (by decide) (by decide) (by decide) hRm (Nat.le_of_ble_eq_true rfl) (Nat.le_of_ble_eq_true rfl) (by omega) hf (fun c72 hf => ?_)
  show mG _ _ _ 22 5064 _ _ _ (_, _, _, (n + 22, _))
  refine mk_pRf C rfl rfl rfl (by decide) rfl rfl rfl rfl rfl hf (fun c73 hf => ?_)
  refine mg_aload_n C rfl rfl ?_
  refine mg_bipush (v := 8) C rfl (by decide) ?_
  refine mk_newI (N := 8) (ti := 0) C rfl rfl rfl wo_arint (by decide) (by decide) (by decide) (by decide) hRm (Nat.le_of_ble_eq_true rfl) (Nat.le_of_ble_eq_true rfl) (by omega) hf (fun c74 hf => ?_)
  show mG _ _ _ 23 5072 _ _ _ (_, _, _, (n + 23, _))
  refine mk_pRf C rfl rfl rfl (by decide) rfl rfl rfl rfl rfl hf (fun c75 hf => ?_)
  refine mg_aload_n C rfl rfl ?_
  refine mg_bipush (v := 8) C rfl (by decide) ?_
  refine mk_newI (N := 8) (ti := 0) C rfl rfl rfl wo_arint (by decide) (by decide) (by decide) (by decide) hRm (Nat.le_of_ble_eq_true rfl) (Nat.le_of_ble_eq_true rfl) (by omega) hf (fun c76 hf => ?_)
  show mG _ _ _ 24 5080 _ _ _ (_, _, _, (n + 24, _))
  refine mk_pRf C rfl rfl rfl (by decide) rfl rfl rfl rfl rfl hf (fun c77 hf => ?_)
  refine mg_aload_n C rfl rfl ?_
  refine mg_bipush (v := 8) C rfl (by decide) ?_
  refine mk_newI (N := 8) (ti := 0) C rfl rfl rfl wo_arint (by decide) (by decide) (by decide) (by decide) hRm (Nat.le_of_ble_eq_true rfl) (Nat.le_of_ble_eq_true rfl) (by omega) hf (fun c78 hf => ?_)
  show mG _ _ _ 25 5088 _ _ _ (_, _, _, (n + 25, _))
  refine mk_pRf C rfl rfl rfl (by decide) rfl rfl rfl rfl rfl hf (fun c79 hf => ?_)
  refine mg_aload_n C rfl rfl ?_
  refine mg_bipush (v := 8) C rfl (by decide) ?_
  refine mk_newI (N := 8) (ti := 0) C rfl rfl rfl wo_arint (by decide) (by decide) (by decide) (by decide) hRm (Nat.le_of_ble_eq_true rfl) (Nat.le_of_ble_eq_true rfl) (by omega) hf (fun c80 hf => ?_)
  show mG _ _ _ 26 5096 _ _ _ (_, _, _, (n + 26, _))
  refine mk_pRf C rfl rfl rfl (by decide) rfl rfl rfl rfl rfl hf (fun c81 hf => ?_)
  refine mg_aload_n C rfl rfl ?_
  refine mg_bipush (v := 31) C rfl (by decide) ?_
  refine mk_newI (N := 31) (ti := 0) C rfl rfl rfl wo_arint (by decide) (by decide) (by decide) (by decide) hRm (Nat.le_of_ble_eq_true rfl) (Nat.le_of_ble_eq_true rfl) (by omega) hf (fun c82 hf => ?_)
  show mG _ _ _ 27 5127 _ _ _ (_, _, _, (n + 27, _))
  refine mk_pRf C rfl rfl rfl (by decide) rfl rfl rfl rfl rfl hf (fun c83 hf => ?_)
  refine mg_aload_n C rfl rfl ?_
  refine mg_bipush (v := 31) C rfl (by decide) ?_
  refine mk_newI (N := 31) (ti := 0) C rfl rfl rfl wo_arint (by decide) (by decide) (by decide) (by decide) hRm (Nat.le_of_ble_eq_true rfl) (Nat.le_of_ble_eq_true rfl) (by omega) hf (fun c84 hf => ?_)
  show mG _ _ _ 28 5158 _ _ _ (_, _, _, (n + 28, _))
  refine mk_pRf C rfl rfl rfl (by decide) rfl rfl rfl rfl rfl hf (fun c85 hf => ?_)
  refine mg_aload_n C rfl rfl ?_
  refine mg_sipush (v := 1240) C rfl (by decide) ?_
  refine mk_newI (N := 1240) (ti := 0) C rfl rfl rfl wo_arint (by decide) (by decide) (by decide) (by decide) hRm (Nat.le_of_ble_eq_true rfl) (Nat.le_of_ble_eq_true rfl) (by omega) hf (fun c86 hf => ?_)
  show mG _ _ _ 29 6398 _ _ _ (_, _, _, (n + 29, _))
  refine mk_pRf C rfl rfl rfl (by decide) rfl rfl rfl rfl rfl hf (fun c87 hf => ?_)
  refine mg_aload_n C rfl rfl ?_
  refine mg_bipush (v := 8) C rfl (by decide) ?_
  refine mk_newI (N := 8) (ti := 0) C rfl rfl rfl wo_arint (by decide) (by decide) (by decide) (by decide) hRm (Nat.le_of_ble_eq_true rfl) (Nat.le_of_ble_eq_true rfl) (by omega) hf (fun c88 hf => ?_)
  show mG _ _ _ 30 6406 _ _ _ (_, _, _, (n + 30, _))
  refine mk_pRf C rfl rfl rfl (by decide) rfl rfl rfl rfl rfl hf (fun c89 hf => ?_)
  refine mg_aload_n C rfl rfl ?_
  refine mg_bipush (v := 8) C rfl (by decide) ?_
  refine mk_newI (N := 8) (ti := 0) C rfl rfl rfl wo_arint (by decide) (by decide) (by decide) (by decide) hRm (Nat.le_of_ble_eq_true rfl) (Nat.le_of_ble_eq_true rfl) (by omega) hf (fun c90 hf => ?_)
  show mG _ _ _ 31 6414 _ _ _ (_, _, _, (n + 31, _))
  refine mk_pRf C rfl rfl rfl (by decide) rfl rfl rfl rfl rfl hf (fun c91 hf => ?_)
  refine mg_aload_n C rfl rfl ?_
  refine mg_bipush (v := 8) C rfl (by decide) ?_
  refine mk_newI (N := 8) (ti := 0) C rfl rfl rfl wo_arint (by decide) (by decide) (by decide) (by decide) hRm (Nat.le_of_ble_eq_true rfl) (Nat.le_of_ble_eq_true rfl) (by omega) hf (fun c92 hf => ?_)
  show mG _ _ _ 32 6422 _ _ _ (_, _, _, (n + 32, _))
  refine mk_pRf C rfl rfl rfl (by decide) rfl rfl rfl rfl rfl hf (fun c93 hf => ?_)
  refine mg_aload_n C rfl rfl ?_
  refine mg_iconst (v := 3) C rfl (by decide) ?_
  refine mk_newI (N := 3) (ti := 0) C rfl rfl rfl wo_arint (by decide) (by decide) (by decide) (by decide) hRm (Nat.le_of_ble_eq_true rfl) (Nat.le_of_ble_eq_true rfl) (by omega) hf (fun c94 hf => ?_)
  show mG _ _ _ 33 6425 _ _ _ (_, _, _, (n + 33, _))
  refine mk_pRf C rfl rfl rfl (by decide) rfl rfl rfl rfl rfl hf (fun c95 hf => ?_)
  exact mk_return C rfl (Nat.le_of_ble_eq_true rfl) (Nat.le_of_ble_eq_true rfl) rfl hf
