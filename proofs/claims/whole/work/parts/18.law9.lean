/- needs: 18.law1 18.law2 18.law3 18.law4 -/
def bL_law_23 (N : Nat) (xs : Nat → Int32) (L : Nat)  (k23 : Nat → Nat → Nat → Int32 → mm_C → mR Int32) (v1 : Nat) (v2 : Nat) (v3 : Nat) (v4 : Int32) (c : mm_C) : mR Int32 :=
  Option.bind (some (Int32.ofNat L)) fun x1 => if (x1 - (6 : Int32)) < v4 then (rZ (1 : Int32) c) else (Option.bind (sc xs L v4) fun x2 => if (x2 &&& (63 : Int32)) = (0 : Int32) then (bL_law_204 N xs L k23 v1 v2 v3 v4 c) else (if (x2 &&& (63 : Int32)) = (1 : Int32) then (bL_law_277 N xs L k23 v1 v2 v3 v4 c) else (if (x2 &&& (63 : Int32)) = (2 : Int32) then (bL_law_333 N xs L k23 v1 v2 v3 v4 c) else (if (x2 &&& (63 : Int32)) = (3 : Int32) then (bL_law_346 N xs L k23 v1 v2 v3 v4 c) else (if (x2 &&& (63 : Int32)) = (4 : Int32) then (bL_law_402 N xs L k23 v1 v2 v3 v4 c) else (if (x2 &&& (63 : Int32)) = (5 : Int32) then (bL_law_470 N xs L k23 v1 v2 v3 v4 c) else (if (x2 &&& (63 : Int32)) = (6 : Int32) then (bL_law_538 N xs L k23 v1 v2 v3 v4 c) else (if (x2 &&& (63 : Int32)) = (7 : Int32) then (bL_law_606 N xs L k23 v1 v2 v3 v4 c) else (if (x2 &&& (63 : Int32)) = (8 : Int32) then (bL_law_662 N xs L k23 v1 v2 v3 v4 c) else (if (x2 &&& (63 : Int32)) = (9 : Int32) then (bL_law_718 N xs L k23 v1 v2 v3 v4 c) else (if (x2 &&& (63 : Int32)) = (10 : Int32) then (bL_law_774 N xs L k23 v1 v2 v3 v4 c) else (if (x2 &&& (63 : Int32)) = (11 : Int32) then (bL_law_799 N xs L k23 v1 v2 v3 v4 c) else (if (x2 &&& (63 : Int32)) = (12 : Int32) then (bL_law_840 N xs L k23 v1 v2 v3 v4 c) else (if (x2 &&& (63 : Int32)) = (13 : Int32) then (bL_law_931 N xs L k23 v1 v2 v3 v4 c) else (if (x2 &&& (63 : Int32)) = (14 : Int32) then (bL_law_996 N xs L k23 v1 v2 v3 v4 c) else (if (x2 &&& (63 : Int32)) = (15 : Int32) then (bL_law_1009 N xs L k23 v1 v2 v3 v4 c) else (if (x2 &&& (63 : Int32)) = (16 : Int32) then (bL_law_1077 N xs L k23 v1 v2 v3 v4 c) else (if (x2 &&& (63 : Int32)) = (17 : Int32) then (bL_law_1090 N xs L k23 v1 v2 v3 v4 c) else (if (x2 &&& (63 : Int32)) = (18 : Int32) then (bL_law_1146 N xs L k23 v1 v2 v3 v4 c) else (if (x2 &&& (63 : Int32)) = (19 : Int32) then (bL_law_1202 N xs L k23 v1 v2 v3 v4 c) else (if (x2 &&& (63 : Int32)) = (20 : Int32) then (bL_law_1258 N xs L k23 v1 v2 v3 v4 c) else (if (x2 &&& (63 : Int32)) = (21 : Int32) then (bL_law_1271 N xs L k23 v1 v2 v3 v4 c) else (if (x2 &&& (63 : Int32)) = (22 : Int32) then (bL_law_1327 N xs L k23 v1 v2 v3 v4 c) else (if (x2 &&& (63 : Int32)) = (23 : Int32) then (bL_law_1395 N xs L k23 v1 v2 v3 v4 c) else (if (x2 &&& (63 : Int32)) = (24 : Int32) then (bL_law_1451 N xs L k23 v1 v2 v3 v4 c) else (if (x2 &&& (63 : Int32)) = (25 : Int32) then (bL_law_1507 N xs L k23 v1 v2 v3 v4 c) else (if (x2 &&& (63 : Int32)) = (26 : Int32) then (bL_law_1575 N xs L k23 v1 v2 v3 v4 c) else (if (x2 &&& (63 : Int32)) = (27 : Int32) then (bL_law_1588 N xs L k23 v1 v2 v3 v4 c) else (if (x2 &&& (63 : Int32)) = (28 : Int32) then (bL_law_1644 N xs L k23 v1 v2 v3 v4 c) else (if (x2 &&& (63 : Int32)) = (29 : Int32) then (bL_law_1700 N xs L k23 v1 v2 v3 v4 c) else (if (x2 &&& (63 : Int32)) = (30 : Int32) then (bL_law_1779 N xs L k23 v1 v2 v3 v4 c) else (if (x2 &&& (63 : Int32)) = (31 : Int32) then (bL_law_1870 N xs L k23 v1 v2 v3 v4 c) else (if (x2 &&& (63 : Int32)) = (32 : Int32) then (bL_law_1966 N xs L k23 v1 v2 v3 v4 c) else (if (x2 &&& (63 : Int32)) = (33 : Int32) then (bL_law_1979 N xs L k23 v1 v2 v3 v4 c) else (if (x2 &&& (63 : Int32)) = (34 : Int32) then (bL_law_1990 N xs L k23 v1 v2 v3 v4 c) else (if (x2 &&& (63 : Int32)) = (35 : Int32) then (bL_law_2082 N xs L k23 v1 v2 v3 v4 c) else (if (x2 &&& (63 : Int32)) = (36 : Int32) then (bL_law_2093 N xs L k23 v1 v2 v3 v4 c) else (k23 v1 v2 v3 (v4 + 6) c))))))))))))))))))))))))))))))))))))))
set_option maxRecDepth 100000 in
theorem wL_law_23 {Z : mm_Z} {X : mm_T} {k w mc ms d n N : Nat} {Q : mm_O → mm_H → Prop} {xs : Nat → Int32} {L : Nat} (hX : scX Z X xs L) (hQ : ∀ o a b c, Q o (a, c) → Q o (b, c)) (C : mm_Ok Z qL_law X) (hRm : mt_R X = mm_rm d mc ms) (hd : 200 ≤ d) (hn : n + 4 < 1000000) (hk : k + 4 ≤ mc) (hw : w + 24 ≤ ms) {k23 : Nat → Nat → Nat → Int32 → mm_C → mR Int32} (hk23 : ∀ (v1 : Nat) (v2 : Nat) (v3 : Nat) (v4 : Int32) (c : mm_C) (k1 w1 n1 : Nat), k ≤ k1 → k1 ≤ k + 2 → w ≤ w1 → w1 ≤ w + 12 → n ≤ n1 → n1 ≤ n + 3 → hO 0 ovI n1 (k23 v1 v2 v3 v4 c) Q → mG Z qL_law X k1 w1 mc ms Q (23, [(0, .ref 4000000), (1, .ref v1), (2, .ref v2), (3, .ref v3), (4, .int v4)], [], (n1, c))) {v1 : Nat} {v2 : Nat} {v3 : Nat} {v4 : Int32} {c : mm_C} (hf : hO 0 ovI n (bL_law_23 N xs L  k23 v1 v2 v3 v4 c) Q) : mG Z qL_law X k w mc ms Q (23, [(0, .ref 4000000), (1, .ref v1), (2, .ref v2), (3, .ref v3), (4, .int v4)], [], (n, c)) := by
  unfold bL_law_23 at hf
  refine mg_iload C rfl rfl ?_
  refine mg_aload_n C rfl rfl ?_
  refine mh_scn hX C rfl hf (fun x1 hf => ?_)
  refine mg_bipush (v := 6) C rfl (by decide) ?_
  refine mg_isub C rfl ?_
  refine mh_icmp_gt C rfl hf (fun e_30 hf => ?_) (fun e_30 hf => ?_)
  · refine mg_iconst (v := 1) C rfl (by decide) ?_
    exact mh_zreturn C rfl (by omega) (by omega) rfl hf
  · refine mg_aload_n C rfl rfl ?_
    refine mg_iload C rfl rfl ?_
    refine mh_sc hX C rfl hf (fun x2 hf => ?_)
    refine mg_bipush (v := 63) C rfl (by decide) ?_
    refine mg_iand C rfl ?_
    refine mh_case hf (fun e_40 hf => ?_) (fun n_1000 hf => ?_)
    · refine mg_tabIn e_40 (tgt := 204) C rfl (by decide) (by decide) rfl (by decide) ?_
      exact wL_law_204 hX hQ C hRm hd hn hk hw hk23 hf
    refine mh_case hf (fun e_40 hf => ?_) (fun n_1001 hf => ?_)
    · refine mg_tabIn e_40 (tgt := 277) C rfl (by decide) (by decide) rfl (by decide) ?_
      exact wL_law_277 hX hQ C hRm hd hn hk hw hk23 hf
    refine mh_case hf (fun e_40 hf => ?_) (fun n_1002 hf => ?_)
    · refine mg_tabIn e_40 (tgt := 333) C rfl (by decide) (by decide) rfl (by decide) ?_
      exact wL_law_333 hX hQ C hRm hd hn hk hw hk23 hf
    refine mh_case hf (fun e_40 hf => ?_) (fun n_1003 hf => ?_)
    · refine mg_tabIn e_40 (tgt := 346) C rfl (by decide) (by decide) rfl (by decide) ?_
      exact wL_law_346 hX hQ C hRm hd hn hk hw hk23 hf
    refine mh_case hf (fun e_40 hf => ?_) (fun n_1004 hf => ?_)
    · refine mg_tabIn e_40 (tgt := 402) C rfl (by decide) (by decide) rfl (by decide) ?_
      exact wL_law_402 hX hQ C hRm hd hn hk hw hk23 hf
    refine mh_case hf (fun e_40 hf => ?_) (fun n_1005 hf => ?_)
    · refine mg_tabIn e_40 (tgt := 470) C rfl (by decide) (by decide) rfl (by decide) ?_
      exact wL_law_470 hX hQ C hRm hd hn hk hw hk23 hf
    refine mh_case hf (fun e_40 hf => ?_) (fun n_1006 hf => ?_)
    · refine mg_tabIn e_40 (tgt := 538) C rfl (by decide) (by decide) rfl (by decide) ?_
      exact wL_law_538 hX hQ C hRm hd hn hk hw hk23 hf
    refine mh_case hf (fun e_40 hf => ?_) (fun n_1007 hf => ?_)
    · refine mg_tabIn e_40 (tgt := 606) C rfl (by decide) (by decide) rfl (by decide) ?_
      exact wL_law_606 hX hQ C hRm hd hn hk hw hk23 hf
    refine mh_case hf (fun e_40 hf => ?_) (fun n_1008 hf => ?_)
    · refine mg_tabIn e_40 (tgt := 662) C rfl (by decide) (by decide) rfl (by decide) ?_
      exact wL_law_662 hX hQ C hRm hd hn hk hw hk23 hf
    refine mh_case hf (fun e_40 hf => ?_) (fun n_1009 hf => ?_)
    · refine mg_tabIn e_40 (tgt := 718) C rfl (by decide) (by decide) rfl (by decide) ?_
      exact wL_law_718 hX hQ C hRm hd hn hk hw hk23 hf
    refine mh_case hf (fun e_40 hf => ?_) (fun n_1010 hf => ?_)
    · refine mg_tabIn e_40 (tgt := 774) C rfl (by decide) (by decide) rfl (by decide) ?_
      exact wL_law_774 hX hQ C hRm hd hn hk hw hk23 hf
    refine mh_case hf (fun e_40 hf => ?_) (fun n_1011 hf => ?_)
    · refine mg_tabIn e_40 (tgt := 799) C rfl (by decide) (by decide) rfl (by decide) ?_
      exact wL_law_799 hX hQ C hRm hd hn hk hw hk23 hf
    refine mh_case hf (fun e_40 hf => ?_) (fun n_1012 hf => ?_)
    · refine mg_tabIn e_40 (tgt := 840) C rfl (by decide) (by decide) rfl (by decide) ?_
      exact wL_law_840 hX hQ C hRm hd hn hk hw hk23 hf
    refine mh_case hf (fun e_40 hf => ?_) (fun n_1013 hf => ?_)
    · refine mg_tabIn e_40 (tgt := 931) C rfl (by decide) (by decide) rfl (by decide) ?_
      exact wL_law_931 hX hQ C hRm hd hn hk hw hk23 hf
    refine mh_case hf (fun e_40 hf => ?_) (fun n_1014 hf => ?_)
    · refine mg_tabIn e_40 (tgt := 996) C rfl (by decide) (by decide) rfl (by decide) ?_
      exact wL_law_996 hX hQ C hRm hd hn hk hw hk23 hf
    refine mh_case hf (fun e_40 hf => ?_) (fun n_1015 hf => ?_)
    · refine mg_tabIn e_40 (tgt := 1009) C rfl (by decide) (by decide) rfl (by decide) ?_
      exact wL_law_1009 hX hQ C hRm hd hn hk hw hk23 hf
    refine mh_case hf (fun e_40 hf => ?_) (fun n_1016 hf => ?_)
    · refine mg_tabIn e_40 (tgt := 1077) C rfl (by decide) (by decide) rfl (by decide) ?_
      exact wL_law_1077 hX hQ C hRm hd hn hk hw hk23 hf
    refine mh_case hf (fun e_40 hf => ?_) (fun n_1017 hf => ?_)
    · refine mg_tabIn e_40 (tgt := 1090) C rfl (by decide) (by decide) rfl (by decide) ?_
      exact wL_law_1090 hX hQ C hRm hd hn hk hw hk23 hf
    refine mh_case hf (fun e_40 hf => ?_) (fun n_1018 hf => ?_)
    · refine mg_tabIn e_40 (tgt := 1146) C rfl (by decide) (by decide) rfl (by decide) ?_
      exact wL_law_1146 hX hQ C hRm hd hn hk hw hk23 hf
    refine mh_case hf (fun e_40 hf => ?_) (fun n_1019 hf => ?_)
    · refine mg_tabIn e_40 (tgt := 1202) C rfl (by decide) (by decide) rfl (by decide) ?_
      exact wL_law_1202 hX hQ C hRm hd hn hk hw hk23 hf
    refine mh_case hf (fun e_40 hf => ?_) (fun n_1020 hf => ?_)
    · refine mg_tabIn e_40 (tgt := 1258) C rfl (by decide) (by decide) rfl (by decide) ?_
      exact wL_law_1258 hX hQ C hRm hd hn hk hw hk23 hf
    refine mh_case hf (fun e_40 hf => ?_) (fun n_1021 hf => ?_)
    · refine mg_tabIn e_40 (tgt := 1271) C rfl (by decide) (by decide) rfl (by decide) ?_
      exact wL_law_1271 hX hQ C hRm hd hn hk hw hk23 hf
    refine mh_case hf (fun e_40 hf => ?_) (fun n_1022 hf => ?_)
    · refine mg_tabIn e_40 (tgt := 1327) C rfl (by decide) (by decide) rfl (by decide) ?_
      exact wL_law_1327 hX hQ C hRm hd hn hk hw hk23 hf
    refine mh_case hf (fun e_40 hf => ?_) (fun n_1023 hf => ?_)
    · refine mg_tabIn e_40 (tgt := 1395) C rfl (by decide) (by decide) rfl (by decide) ?_
      exact wL_law_1395 hX hQ C hRm hd hn hk hw hk23 hf
    refine mh_case hf (fun e_40 hf => ?_) (fun n_1024 hf => ?_)
    · refine mg_tabIn e_40 (tgt := 1451) C rfl (by decide) (by decide) rfl (by decide) ?_
      exact wL_law_1451 hX hQ C hRm hd hn hk hw hk23 hf
    refine mh_case hf (fun e_40 hf => ?_) (fun n_1025 hf => ?_)
    · refine mg_tabIn e_40 (tgt := 1507) C rfl (by decide) (by decide) rfl (by decide) ?_
      exact wL_law_1507 hX hQ C hRm hd hn hk hw hk23 hf
    refine mh_case hf (fun e_40 hf => ?_) (fun n_1026 hf => ?_)
    · refine mg_tabIn e_40 (tgt := 1575) C rfl (by decide) (by decide) rfl (by decide) ?_
      exact wL_law_1575 hX hQ C hRm hd hn hk hw hk23 hf
    refine mh_case hf (fun e_40 hf => ?_) (fun n_1027 hf => ?_)
    · refine mg_tabIn e_40 (tgt := 1588) C rfl (by decide) (by decide) rfl (by decide) ?_
      exact wL_law_1588 hX hQ C hRm hd hn hk hw hk23 hf
    refine mh_case hf (fun e_40 hf => ?_) (fun n_1028 hf => ?_)
    · refine mg_tabIn e_40 (tgt := 1644) C rfl (by decide) (by decide) rfl (by decide) ?_
      exact wL_law_1644 hX hQ C hRm hd hn hk hw hk23 hf
    refine mh_case hf (fun e_40 hf => ?_) (fun n_1029 hf => ?_)
    · refine mg_tabIn e_40 (tgt := 1700) C rfl (by decide) (by decide) rfl (by decide) ?_
      exact wL_law_1700 hX hQ C hRm hd hn hk hw hk23 hf
    refine mh_case hf (fun e_40 hf => ?_) (fun n_1030 hf => ?_)
    · refine mg_tabIn e_40 (tgt := 1779) C rfl (by decide) (by decide) rfl (by decide) ?_
      exact wL_law_1779 hX hQ C hRm hd hn hk hw hk23 hf
    refine mh_case hf (fun e_40 hf => ?_) (fun n_1031 hf => ?_)
    · refine mg_tabIn e_40 (tgt := 1870) C rfl (by decide) (by decide) rfl (by decide) ?_
      exact wL_law_1870 hX hQ C hRm hd hn hk hw hk23 hf
    refine mh_case hf (fun e_40 hf => ?_) (fun n_1032 hf => ?_)
    · refine mg_tabIn e_40 (tgt := 1966) C rfl (by decide) (by decide) rfl (by decide) ?_
      exact wL_law_1966 hX hQ C hRm hd hn hk hw hk23 hf
    refine mh_case hf (fun e_40 hf => ?_) (fun n_1033 hf => ?_)
    · refine mg_tabIn e_40 (tgt := 1979) C rfl (by decide) (by decide) rfl (by decide) ?_
      exact wL_law_1979 hX hQ C hRm hd hn hk hw hk23 hf
    refine mh_case hf (fun e_40 hf => ?_) (fun n_1034 hf => ?_)
    · refine mg_tabIn e_40 (tgt := 1990) C rfl (by decide) (by decide) rfl (by decide) ?_
      exact wL_law_1990 hX hQ C hRm hd hn hk hw hk23 hf
    refine mh_case hf (fun e_40 hf => ?_) (fun n_1035 hf => ?_)
    · refine mg_tabIn e_40 (tgt := 2082) C rfl (by decide) (by decide) rfl (by decide) ?_
      exact wL_law_2082 hX hQ C hRm hd hn hk hw hk23 hf
    refine mh_case hf (fun e_40 hf => ?_) (fun n_1036 hf => ?_)
    · refine mg_tabIn e_40 (tgt := 2093) C rfl (by decide) (by decide) rfl (by decide) ?_
      exact wL_law_2093 hX hQ C hRm hd hn hk hw hk23 hf
    refine mg_tableOut (tgt := 2106) C rfl (tsw_out [0, 1, 2, 3, 4, 5, 6, 7, 8, 9, 10, 11, 12, 13, 14, 15, 16, 17, 18, 19, 20, 21, 22, 23, 24, 25, 26, 27, 28, 29, 30, 31, 32, 33, 34, 35, 36] (by decide) (List.forall_mem_cons.mpr ⟨n_1000, List.forall_mem_cons.mpr ⟨n_1001, List.forall_mem_cons.mpr ⟨n_1002, List.forall_mem_cons.mpr ⟨n_1003, List.forall_mem_cons.mpr ⟨n_1004, List.forall_mem_cons.mpr ⟨n_1005, List.forall_mem_cons.mpr ⟨n_1006, List.forall_mem_cons.mpr ⟨n_1007, List.forall_mem_cons.mpr ⟨n_1008, List.forall_mem_cons.mpr ⟨n_1009, List.forall_mem_cons.mpr ⟨n_1010, List.forall_mem_cons.mpr ⟨n_1011, List.forall_mem_cons.mpr ⟨n_1012, List.forall_mem_cons.mpr ⟨n_1013, List.forall_mem_cons.mpr ⟨n_1014, List.forall_mem_cons.mpr ⟨n_1015, List.forall_mem_cons.mpr ⟨n_1016, List.forall_mem_cons.mpr ⟨n_1017, List.forall_mem_cons.mpr ⟨n_1018, List.forall_mem_cons.mpr ⟨n_1019, List.forall_mem_cons.mpr ⟨n_1020, List.forall_mem_cons.mpr ⟨n_1021, List.forall_mem_cons.mpr ⟨n_1022, List.forall_mem_cons.mpr ⟨n_1023, List.forall_mem_cons.mpr ⟨n_1024, List.forall_mem_cons.mpr ⟨n_1025, List.forall_mem_cons.mpr ⟨n_1026, List.forall_mem_cons.mpr ⟨n_1027, List.forall_mem_cons.mpr ⟨n_1028, List.forall_mem_cons.mpr ⟨n_1029, List.forall_mem_cons.mpr ⟨n_1030, List.forall_mem_cons.mpr ⟨n_1031, List.forall_mem_cons.mpr ⟨n_1032, List.forall_mem_cons.mpr ⟨n_1033, List.forall_mem_cons.mpr ⟨n_1034, List.forall_mem_cons.mpr ⟨n_1035, List.forall_mem_cons.mpr ⟨n_1036, List.forall_mem_nil _⟩⟩⟩⟩⟩⟩⟩⟩⟩⟩⟩⟩⟩⟩⟩⟩⟩⟩⟩⟩⟩⟩⟩⟩⟩⟩⟩⟩⟩⟩⟩⟩⟩⟩⟩⟩⟩)) (by decide) ?_
    refine mg_iinc (lv' := [(0, .ref 4000000), (1, .ref v1), (2, .ref v2), (3, .ref v3), (4, .int (v4 + 6))]) C rfl (Nat.le_of_ble_eq_true rfl) rfl (show _ + Int32.ofInt 6 = _ + 6 by congr 1) rfl ?_
    refine mg_goto C rfl ?_
    exact hk23 _ _ _ _ _ _ _ _ (by omega) (by omega) (by omega) (by omega) (by omega) (by omega) hf
def lL_law_23 (N : Nat) (xs : Nat → Int32) (L : Nat) : Nat → Nat → Nat → Nat → Int32 → mm_C → mR Int32
  | 0, _, _, _, _, _ => none
  | m + 1, v1, v2, v3, v4, c => bL_law_23 N xs L (lL_law_23 N xs L m) v1 v2 v3 v4 c
theorem WL_law_23 {Z : mm_Z} {X : mm_T} {mc ms d N : Nat} {Q : mm_O → mm_H → Prop} {xs : Nat → Int32} {L : Nat} (hX : scX Z X xs L) (hQ : ∀ o a b c, Q o (a, c) → Q o (b, c)) (C : mm_Ok Z qL_law X) (hRm : mt_R X = mm_rm d mc ms) (hd : 200 ≤ d) : ∀ (m : Nat) {k w n : Nat} (hn : n + 3 * m + 4 < 1000000) (hk : k + 2 * m + 4 ≤ mc) (hw : w + 12 * m + 24 ≤ ms) {v1 : Nat} {v2 : Nat} {v3 : Nat} {v4 : Int32} {c : mm_C} (hf : hO 0 ovI n (lL_law_23 N xs L m v1 v2 v3 v4 c) Q), mG Z qL_law X k w mc ms Q (23, [(0, .ref 4000000), (1, .ref v1), (2, .ref v2), (3, .ref v3), (4, .int v4)], [], (n, c)) := by
  intro m
  induction m with
  | zero => intro k w n hn hk hw v1 v2 v3 v4 c hf; exact absurd hf hO_none
  | succ m ih => intro k w n hn hk hw v1 v2 v3 v4 c hf; exact wL_law_23 hX hQ C hRm hd (by omega) (by omega) (by omega) (fun v1 v2 v3 v4 c k1 w1 n1 h1 h2 h3 h4 h5 h6 hf => ih (by omega) (by omega) (by omega) hf) hf
