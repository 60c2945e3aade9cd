/- needs: 18.alaw -/
def bL_law_774 (N : Nat) (xs : Nat → Int32) (L : Nat)  (k23 : Nat → Nat → Nat → Int32 → mm_C → mR Int32) (v1 : Nat) (v2 : Nat) (v3 : Nat) (v4 : Int32) (c : mm_C) : mR Int32 :=
  Option.bind (sc xs L (v4 + (1 : Int32))) fun x1 => cV 11 v1 c (fX11_await N v1 x1 c) fun r2 c3 => Option.bind (sc xs L (v4 + (1 : Int32))) fun x4 => cV 12 v2 c3 (fX12_await N v2 x4 c3) fun r5 c6 => if r2 = r5 then (k23 v1 v2 v3 (v4 + 6) c6) else (rZ (0 : Int32) c6)
set_option maxRecDepth 100000 in
theorem wL_law_774 {Z : mm_Z} {X : mm_T} {k w mc ms d n N : Nat} {Q : mm_O → mm_H → Prop} {xs : Nat → Int32} {L : Nat} (hX : scX Z X xs L) (hQ : ∀ o a b c, Q o (a, c) → Q o (b, c)) (C : mm_Ok Z qL_law X) (hRm : mt_R X = mm_rm d mc ms) (hd : 200 ≤ d) (hn : n + 4 < 1000000) (hk : k + 4 ≤ mc) (hw : w + 24 ≤ ms) {k23 : Nat → Nat → Nat → Int32 → mm_C → mR Int32} (hk23 : ∀ (v1 : Nat) (v2 : Nat) (v3 : Nat) (v4 : Int32) (c : mm_C) (k1 w1 n1 : Nat), k ≤ k1 → k1 ≤ k + 2 → w ≤ w1 → w1 ≤ w + 12 → n ≤ n1 → n1 ≤ n + 3 → hO 0 ovI n1 (k23 v1 v2 v3 v4 c) Q → mG Z qL_law X k1 w1 mc ms Q (23, [(0, .ref 4000000), (1, .ref v1), (2, .ref v2), (3, .ref v3), (4, .int v4)], [], (n1, c))) {v1 : Nat} {v2 : Nat} {v3 : Nat} {v4 : Int32} {c : mm_C} (hf : hO 0 ovI n (bL_law_774 N xs L  k23 v1 v2 v3 v4 c) Q) : mG Z qL_law X k w mc ms Q (774, [(0, .ref 4000000), (1, .ref v1), (2, .ref v2), (3, .ref v3), (4, .int v4)], [], (n, c)) := by
  unfold bL_law_774 at hf
  refine mg_aload_n C rfl rfl ?_
  refine mg_aload_n C rfl rfl ?_
  refine mg_iload C rfl rfl ?_
  refine mg_iconst (v := 1) C rfl (by decide) ?_
  refine mg_iadd C rfl ?_
  refine mh_sc hX C rfl hf (fun x1 hf => ?_)
  refine mh_cVI (M' := qX11_await) C rfl rfl aX11_await iX11_await sX11_await hRm (by omega) (by decide) (by omega) (by omega) rfl rfl rfl (Nat.le_of_ble_eq_true rfl) rfl hf (fun hs => wX11_await (by omega) (by omega) hs) (fun r2 c3 hf => ?_)
  refine mg_aload_n C rfl rfl ?_
  refine mg_aload_n C rfl rfl ?_
  refine mg_iload C rfl rfl ?_
  refine mg_iconst (v := 1) C rfl (by decide) ?_
  refine mg_iadd C rfl ?_
  refine mh_sc hX C rfl hf (fun x4 hf => ?_)
  refine mh_cVI (M' := qX12_await) C rfl rfl aX12_await iX12_await sX12_await hRm (by omega) (by decide) (by omega) (by omega) rfl rfl rfl (Nat.le_of_ble_eq_true rfl) rfl hf (fun hs => wX12_await (by omega) (by omega) hs) (fun r5 c6 hf => ?_)
  refine mh_icmp_eq C rfl hf (fun e_794 hf => ?_) (fun e_794 hf => ?_)
  · refine mg_iinc (lv' := [(0, .ref 4000000), (1, .ref v1), (2, .ref v2), (3, .ref v3), (4, .int (v4 + 6))]) C rfl (Nat.le_of_ble_eq_true rfl) rfl (show _ + Int32.ofInt 6 = _ + 6 by congr 1) rfl ?_
    refine mg_goto C rfl ?_
    exact hk23 _ _ _ _ _ _ _ _ (by omega) (by omega) (by omega) (by omega) (by omega) (by omega) hf
  · refine mg_iconst (v := 0) C rfl (by decide) ?_
    exact mh_zreturn C rfl (by omega) (by omega) rfl hf
def bL_law_799 (N : Nat) (xs : Nat → Int32) (L : Nat)  (k23 : Nat → Nat → Nat → Int32 → mm_C → mR Int32) (v1 : Nat) (v2 : Nat) (v3 : Nat) (v4 : Int32) (c : mm_C) : mR Int32 :=
  Option.bind (sc xs L (v4 + (1 : Int32))) fun x1 => if x1 = 0 then (cV 11 v1 c (fX11_move N v1 (0 : Int32) c) fun r2 c3 => Option.bind (sc xs L (v4 + (1 : Int32))) fun x4 => if x4 = 0 then (cV 12 v2 c3 (fX12_move N v2 (0 : Int32) c3) fun r5 c6 => if r2 = r5 then (k23 v1 v2 v3 (v4 + 6) c6) else (rZ (0 : Int32) c6)) else (cV 12 v2 c3 (fX12_move N v2 (1 : Int32) c3) fun r7 c8 => if r2 = r7 then (k23 v1 v2 v3 (v4 + 6) c8) else (rZ (0 : Int32) c8))) else (cV 11 v1 c (fX11_move N v1 (1 : Int32) c) fun r9 c10 => Option.bind (sc xs L (v4 + (1 : Int32))) fun x11 => if x11 = 0 then (cV 12 v2 c10 (fX12_move N v2 (0 : Int32) c10) fun r12 c13 => if r9 = r12 then (k23 v1 v2 v3 (v4 + 6) c13) else (rZ (0 : Int32) c13)) else (cV 12 v2 c10 (fX12_move N v2 (1 : Int32) c10) fun r14 c15 => if r9 = r14 then (k23 v1 v2 v3 (v4 + 6) c15) else (rZ (0 : Int32) c15)))
set_option maxRecDepth 100000 in
theorem wL_law_799 {Z : mm_Z} {X : mm_T} {k w mc ms d n N : Nat} {Q : mm_O → mm_H → Prop} {xs : Nat → Int32} {L : Nat} (hX : scX Z X xs L) (hQ : ∀ o a b c, Q o (a, c) → Q o (b, c)) (C : mm_Ok Z qL_law X) (hRm : mt_R X = mm_rm d mc ms) (hd : 200 ≤ d) (hn : n + 4 < 1000000) (hk : k + 4 ≤ mc) (hw : w + 24 ≤ ms) {k23 : Nat → Nat → Nat → Int32 → mm_C → mR Int32} (hk23 : ∀ (v1 : Nat) (v2 : Nat) (v3 : Nat) (v4 : Int32) (c : mm_C) (k1 w1 n1 : Nat), k ≤ k1 → k1 ≤ k + 2 → w ≤ w1 → w1 ≤ w + 12 → n ≤ n1 → n1 ≤ n + 3 → hO 0 ovI n1 (k23 v1 v2 v3 v4 c) Q → mG Z qL_law X k1 w1 mc ms Q (23, [(0, .ref 4000000), (1, .ref v1), (2, .ref v2), (3, .ref v3), (4, .int v4)], [], (n1, c))) {v1 : Nat} {v2 : Nat} {v3 : Nat} {v4 : Int32} {c : mm_C} (hf : hO 0 ovI n (bL_law_799 N xs L  k23 v1 v2 v3 v4 c) Q) : mG Z qL_law X k w mc ms Q (799, [(0, .ref 4000000), (1, .ref v1), (2, .ref v2), (3, .ref v3), (4, .int v4)], [], (n, c)) := by
  unfold bL_law_799 at hf
  refine mg_aload_n C rfl rfl ?_
  refine mg_aload_n C rfl rfl ?_
  refine mg_iload C rfl rfl ?_
  refine mg_iconst (v := 1) C rfl (by decide) ?_
  refine mg_iadd C rfl ?_
  refine mh_sc hX C rfl hf (fun x1 hf => ?_)
  refine mh_if_eq C rfl hf (fun e_806 hf => ?_) (fun e_806 hf => ?_)
  · refine mg_iconst (v := 0) C rfl (by decide) ?_
    refine mh_cVI (M' := qX11_move) C rfl rfl aX11_move iX11_move sX11_move hRm (by omega) (by decide) (by omega) (by omega) rfl rfl rfl (Nat.le_of_ble_eq_true rfl) rfl hf (fun hs => wX11_move (by omega) (by omega) hs) (fun r2 c3 hf => ?_)
    refine mg_aload_n C rfl rfl ?_
    refine mg_aload_n C rfl rfl ?_
    refine mg_iload C rfl rfl ?_
    refine mg_iconst (v := 1) C rfl (by decide) ?_
    refine mg_iadd C rfl ?_
    refine mh_sc hX C rfl hf (fun x4 hf => ?_)
    refine mh_if_eq C rfl hf (fun e_824 hf => ?_) (fun e_824 hf => ?_)
    · refine mg_iconst (v := 0) C rfl (by decide) ?_
      refine mh_cVI (M' := qX12_move) C rfl rfl aX12_move iX12_move sX12_move hRm (by omega) (by decide) (by omega) (by omega) rfl rfl rfl (Nat.le_of_ble_eq_true rfl) rfl hf (fun hs => wX12_move (by omega) (by omega) hs) (fun r5 c6 hf => ?_)
      refine mh_icmp_eq C rfl hf (fun e_835 hf => ?_) (fun e_835 hf => ?_)
      · refine mg_iinc (lv' := [(0, .ref 4000000), (1, .ref v1), (2, .ref v2), (3, .ref v3), (4, .int (v4 + 6))]) C rfl (Nat.le_of_ble_eq_true rfl) rfl (show _ + Int32.ofInt 6 = _ + 6 by congr 1) rfl ?_
        refine mg_goto C rfl ?_
        exact hk23 _ _ _ _ _ _ _ _ (by omega) (by omega) (by omega) (by omega) (by omega) (by omega) hf
      · refine mg_iconst (v := 0) C rfl (by decide) ?_
        exact mh_zreturn C rfl (by omega) (by omega) rfl hf
    · refine mg_iconst (v := 1) C rfl (by decide) ?_
      refine mg_goto C rfl ?_
      refine mh_cVI (M' := qX12_move) C rfl rfl aX12_move iX12_move sX12_move hRm (by omega) (by decide) (by omega) (by omega) rfl rfl rfl (Nat.le_of_ble_eq_true rfl) rfl hf (fun hs => wX12_move (by omega) (by omega) hs) (fun r7 c8 hf => ?_)
      refine mh_icmp_eq C rfl hf (fun e_835 hf => ?_) (fun e_835 hf => ?_)
      · refine mg_iinc (lv' := [(0, .ref 4000000), (1, .ref v1), (2, .ref v2), (3, .ref v3), (4, .int (v4 + 6))]) C rfl (Nat.le_of_ble_eq_true rfl) rfl (show _ + Int32.ofInt 6 = _ + 6 by congr 1) rfl ?_
        refine mg_goto C rfl ?_
        exact hk23 _ _ _ _ _ _ _ _ (by omega) (by omega) (by omega) (by omega) (by omega) (by omega) hf
      · refine mg_iconst (v := 0) C rfl (by decide) ?_
        exact mh_zreturn C rfl (by omega) (by omega) rfl hf
  · refine mg_iconst (v := 1) C rfl (by decide) ?_
    refine mg_goto C rfl ?_
    refine mh_cVI (M' := qX11_move) C rfl rfl aX11_move iX11_move sX11_move hRm (by omega) (by decide) (by omega) (by omega) rfl rfl rfl (Nat.le_of_ble_eq_true rfl) rfl hf (fun hs => wX11_move (by omega) (by omega) hs) (fun r9 c10 hf => ?_)
    refine mg_aload_n C rfl rfl ?_
    refine mg_aload_n C rfl rfl ?_
    refine mg_iload C rfl rfl ?_
    refine mg_iconst (v := 1) C rfl (by decide) ?_
    refine mg_iadd C rfl ?_
    refine mh_sc hX C rfl hf (fun x11 hf => ?_)
    refine mh_if_eq C rfl hf (fun e_824 hf => ?_) (fun e_824 hf => ?_)
    · refine mg_iconst (v := 0) C rfl (by decide) ?_
      refine mh_cVI (M' := qX12_move) C rfl rfl aX12_move iX12_move sX12_move hRm (by omega) (by decide) (by omega) (by omega) rfl rfl rfl (Nat.le_of_ble_eq_true rfl) rfl hf (fun hs => wX12_move (by omega) (by omega) hs) (fun r12 c13 hf => ?_)
      refine mh_icmp_eq C rfl hf (fun e_835 hf => ?_) (fun e_835 hf => ?_)
      · refine mg_iinc (lv' := [(0, .ref 4000000), (1, .ref v1), (2, .ref v2), (3, .ref v3), (4, .int (v4 + 6))]) C rfl (Nat.le_of_ble_eq_true rfl) rfl (show _ + Int32.ofInt 6 = _ + 6 by congr 1) rfl ?_
        refine mg_goto C rfl ?_
        exact hk23 _ _ _ _ _ _ _ _ (by omega) (by omega) (by omega) (by omega) (by omega) (by omega) hf
      · refine mg_iconst (v := 0) C rfl (by decide) ?_
        exact mh_zreturn C rfl (by omega) (by omega) rfl hf
    · refine mg_iconst (v := 1) C rfl (by decide) ?_
      refine mg_goto C rfl ?_
      refine mh_cVI (M' := qX12_move) C rfl rfl aX12_move iX12_move sX12_move hRm (by omega) (by decide) (by omega) (by omega) rfl rfl rfl (Nat.le_of_ble_eq_true rfl) rfl hf (fun hs => wX12_move (by omega) (by omega) hs) (fun r14 c15 hf => ?_)
      refine mh_icmp_eq C rfl hf (fun e_835 hf => ?_) (fun e_835 hf => ?_)
      · refine mg_iinc (lv' := [(0, .ref 4000000), (1, .ref v1), (2, .ref v2), (3, .ref v3), (4, .int (v4 + 6))]) C rfl (Nat.le_of_ble_eq_true rfl) rfl (show _ + Int32.ofInt 6 = _ + 6 by congr 1) rfl ?_
        refine mg_goto C rfl ?_
        exact hk23 _ _ _ _ _ _ _ _ (by omega) (by omega) (by omega) (by omega) (by omega) (by omega) hf
      · refine mg_iconst (v := 0) C rfl (by decide) ?_
        exact mh_zreturn C rfl (by omega) (by omega) rfl hf
def bL_law_840 (N : Nat) (xs : Nat → Int32) (L : Nat)  (k23 : Nat → Nat → Nat → Int32 → mm_C → mR Int32) (v1 : Nat) (v2 : Nat) (v3 : Nat) (v4 : Int32) (c : mm_C) : mR Int32 :=
  Option.bind (sc xs L (v4 + (1 : Int32))) fun x1 => Option.bind (sc xs L (v4 + (2 : Int32))) fun x2 => if x2 = 0 then (cS (fL_sets N v1 x1 (0 : Int32) v3 c) fun r3 c4 => Option.bind (sc xs L (v4 + (1 : Int32))) fun x5 => Option.bind (sc xs L (v4 + (2 : Int32))) fun x6 => if x6 = 0 then (cV 12 v2 c4 (fX12_sets N v2 x5 (0 : Int32) c4) fun r7 c8 => cV 12 v2 c8 (fX12_thrown N v2 c8) fun r9 c10 => if r9 = r3 then (if ¬ r3 = 0 then (k23 v1 v2 v3 (v4 + 6) c10) else (Option.bind (aL c10 v3 (0 : Int32)) fun x11 => if r7 = 0 then (if (lg_cmp x11 (0 : Int64)) = 0 then (k23 v1 v2 v3 (v4 + 6) c10) else (rZ (0 : Int32) c10)) else (if (lg_cmp x11 (1 : Int64)) = 0 then (k23 v1 v2 v3 (v4 + 6) c10) else (rZ (0 : Int32) c10)))) else (rZ (0 : Int32) c10)) else (cV 12 v2 c4 (fX12_sets N v2 x5 (1 : Int32) c4) fun r12 c13 => cV 12 v2 c13 (fX12_thrown N v2 c13) fun r14 c15 => if r14 = r3 then (if ¬ r3 = 0 then (k23 v1 v2 v3 (v4 + 6) c15) else (Option.bind (aL c15 v3 (0 : Int32)) fun x16 => if r12 = 0 then (if (lg_cmp x16 (0 : Int64)) = 0 then (k23 v1 v2 v3 (v4 + 6) c15) else (rZ (0 : Int32) c15)) else (if (lg_cmp x16 (1 : Int64)) = 0 then (k23 v1 v2 v3 (v4 + 6) c15) else (rZ (0 : Int32) c15)))) else (rZ (0 : Int32) c15))) else (cS (fL_sets N v1 x1 (1 : Int32) v3 c) fun r17 c18 => Option.bind (sc xs L (v4 + (1 : Int32))) fun x19 => Option.bind (sc xs L (v4 + (2 : Int32))) fun x20 => if x20 = 0 then (cV 12 v2 c18 (fX12_sets N v2 x19 (0 : Int32) c18) fun r21 c22 => cV 12 v2 c22 (fX12_thrown N v2 c22) fun r23 c24 => if r23 = r17 then (if ¬ r17 = 0 then (k23 v1 v2 v3 (v4 + 6) c24) else (Option.bind (aL c24 v3 (0 : Int32)) fun x25 => if r21 = 0 then (if (lg_cmp x25 (0 : Int64)) = 0 then (k23 v1 v2 v3 (v4 + 6) c24) else (rZ (0 : Int32) c24)) else (if (lg_cmp x25 (1 : Int64)) = 0 then (k23 v1 v2 v3 (v4 + 6) c24) else (rZ (0 : Int32) c24)))) else (rZ (0 : Int32) c24)) else (cV 12 v2 c18 (fX12_sets N v2 x19 (1 : Int32) c18) fun r26 c27 => cV 12 v2 c27 (fX12_thrown N v2 c27) fun r28 c29 => if r28 = r17 then (if ¬ r17 = 0 then (k23 v1 v2 v3 (v4 + 6) c29) else (Option.bind (aL c29 v3 (0 : Int32)) fun x30 => if r26 = 0 then (if (lg_cmp x30 (0 : Int64)) = 0 then (k23 v1 v2 v3 (v4 + 6) c29) else (rZ (0 : Int32) c29)) else (if (lg_cmp x30 (1 : Int64)) = 0 then (k23 v1 v2 v3 (v4 + 6) c29) else (rZ (0 : Int32) c29)))) else (rZ (0 : Int32) c29)))
set_option maxRecDepth 100000 in
theorem wL_law_840 {Z : mm_Z} {X : mm_T} {k w mc ms d n N : Nat} {Q : mm_O → mm_H → Prop} {xs : Nat → Int32} {L : Nat} (hX : scX Z X xs L) (hQ : ∀ o a b c, Q o (a, c) → Q o (b, c)) (C : mm_Ok Z qL_law X) (hRm : mt_R X = mm_rm d mc ms) (hd : 200 ≤ d) (hn : n + 4 < 1000000) (hk : k + 4 ≤ mc) (hw : w + 24 ≤ ms) {k23 : Nat → Nat → Nat → Int32 → mm_C → mR Int32} (hk23 : ∀ (v1 : Nat) (v2 : Nat) (v3 : Nat) (v4 : Int32) (c : mm_C) (k1 w1 n1 : Nat), k ≤ k1 → k1 ≤ k + 2 → w ≤ w1 → w1 ≤ w + 12 → n ≤ n1 → n1 ≤ n + 3 → hO 0 ovI n1 (k23 v1 v2 v3 v4 c) Q → mG Z qL_law X k1 w1 mc ms Q (23, [(0, .ref 4000000), (1, .ref v1), (2, .ref v2), (3, .ref v3), (4, .int v4)], [], (n1, c))) {v1 : Nat} {v2 : Nat} {v3 : Nat} {v4 : Int32} {c : mm_C} (hf : hO 0 ovI n (bL_law_840 N xs L  k23 v1 v2 v3 v4 c) Q) : mG Z qL_law X k w mc ms Q (840, [(0, .ref 4000000), (1, .ref v1), (2, .ref v2), (3, .ref v3), (4, .int v4)], [], (n, c)) := by
  unfold bL_law_840 at hf
  refine mg_aload_n C rfl rfl ?_
  refine mg_aload_n C rfl rfl ?_
  refine mg_iload C rfl rfl ?_
  refine mg_iconst (v := 1) C rfl (by decide) ?_
  refine mg_iadd C rfl ?_
  refine mh_sc hX C rfl hf (fun x1 hf => ?_)
  refine mg_aload_n C rfl rfl ?_
  refine mg_iload C rfl rfl ?_
  refine mg_iconst (v := 2) C rfl (by decide) ?_
  refine mg_iadd C rfl ?_
  refine mh_sc hX C rfl hf (fun x2 hf => ?_)
  refine mh_if_eq C rfl hf (fun e_853 hf => ?_) (fun e_853 hf => ?_)
  · refine mg_iconst (v := 0) C rfl (by decide) ?_
    refine mg_aload_n C rfl rfl ?_
    refine mu_cS (kc := 1) (tn := 1) (M' := qL_sets) C rfl rfl awL_sets tL_sets hRm (by omega) (by decide) (by omega) (by omega) rfl rfl (Nat.le_of_ble_eq_true rfl) rfl hQ hf (fun hs => wL_sets (by omega) (by omega) hs) (fun r3 c4 n hn1 hn2 hf => ?_)
    refine mg_istore (lv' := [(0, .ref 4000000), (1, .ref v1), (2, .ref v2), (3, .ref v3), (4, .int v4), (5, .int r3)]) C rfl (Nat.le_of_ble_eq_true rfl) rfl ?_
    refine mg_aload_n C rfl rfl ?_
    refine mg_aload_n C rfl rfl ?_
    refine mg_iload C rfl rfl ?_
    refine mg_iconst (v := 1) C rfl (by decide) ?_
    refine mg_iadd C rfl ?_
    refine mh_sc hX C rfl hf (fun x5 hf => ?_)
    refine mg_aload_n C rfl rfl ?_
    refine mg_iload C rfl rfl ?_
    refine mg_iconst (v := 2) C rfl (by decide) ?_
    refine mg_iadd C rfl ?_
    refine mh_sc hX C rfl hf (fun x6 hf => ?_)
    refine mh_if_eq C rfl hf (fun e_880 hf => ?_) (fun e_880 hf => ?_)
    · refine mg_iconst (v := 0) C rfl (by decide) ?_
      refine mh_cVI (M' := qX12_sets) C rfl rfl aX12_sets iX12_sets sX12_sets hRm (by omega) (by decide) (by omega) (by omega) rfl rfl rfl (Nat.le_of_ble_eq_true rfl) rfl hf (fun hs => wX12_sets (by omega) (by omega) hs) (fun r7 c8 hf => ?_)
      refine mg_istore (lv' := [(0, .ref 4000000), (1, .ref v1), (2, .ref v2), (3, .ref v3), (4, .int v4), (5, .int r3), (6, .int r7)]) C rfl (Nat.le_of_ble_eq_true rfl) rfl ?_
      refine mg_aload_n C rfl rfl ?_
      refine mh_cVI (M' := qX12_thrown) C rfl rfl aX12_thrown iX12_thrown sX12_thrown hRm (by omega) (by decide) (by omega) (by omega) rfl rfl rfl (Nat.le_of_ble_eq_true rfl) rfl hf (fun hs => wX12_thrown (by omega) (by omega) hs) (fun r9 c10 hf => ?_)
      refine mg_iload C rfl rfl ?_
      refine mh_icmp_eq C rfl hf (fun e_899 hf => ?_) (fun e_899 hf => ?_)
      · refine mg_iload C rfl rfl ?_
        refine mh_if_ne C rfl hf (fun e_906 hf => ?_) (fun e_906 hf => ?_)
        · refine mg_goto C rfl ?_
          refine mg_iinc (lv' := [(0, .ref 4000000), (1, .ref v1), (2, .ref v2), (3, .ref v3), (4, .int (v4 + 6)), (5, .int r3), (6, .int r7)]) C rfl (Nat.le_of_ble_eq_true rfl) rfl (show _ + Int32.ofInt 6 = _ + 6 by congr 1) rfl ?_
          refine mg_goto C rfl ?_
          refine mg_sub (lv' := [(0, .ref 4000000), (1, .ref v1), (2, .ref v2), (3, .ref v3), (4, .int (v4 + 6))]) (by simp) ?_
          exact hk23 _ _ _ _ _ _ _ _ (by omega) (by omega) (by omega) (by omega) (by omega) (by omega) hf
        · refine mg_aload_n C rfl rfl ?_
          refine mg_iconst (v := 0) C rfl (by decide) ?_
          refine mh_aL C rfl hf (fun x11 hf => ?_)
          refine mg_iload C rfl rfl ?_
          refine mh_if_eq C rfl hf (fun e_914 hf => ?_) (fun e_914 hf => ?_)
          · refine mg_lconst (v := 0) C rfl (by decide) ?_
            refine mg_lcmp C rfl ?_
            refine mh_if_eq C rfl hf (fun e_923 hf => ?_) (fun e_923 hf => ?_)
            · refine mg_goto C rfl ?_
              refine mg_iinc (lv' := [(0, .ref 4000000), (1, .ref v1), (2, .ref v2), (3, .ref v3), (4, .int (v4 + 6)), (5, .int r3), (6, .int r7)]) C rfl (Nat.le_of_ble_eq_true rfl) rfl (show _ + Int32.ofInt 6 = _ + 6 by congr 1) rfl ?_
              refine mg_goto C rfl ?_
              refine mg_sub (lv' := [(0, .ref 4000000), (1, .ref v1), (2, .ref v2), (3, .ref v3), (4, .int (v4 + 6))]) (by simp) ?_
              exact hk23 _ _ _ _ _ _ _ _ (by omega) (by omega) (by omega) (by omega) (by omega) (by omega) hf
            · refine mg_iconst (v := 0) C rfl (by decide) ?_
              exact mh_zreturn C rfl (by omega) (by omega) rfl hf
          · refine mg_lconst (v := 1) C rfl (by decide) ?_
            refine mg_goto C rfl ?_
            refine mg_lcmp C rfl ?_
            refine mh_if_eq C rfl hf (fun e_923 hf => ?_) (fun e_923 hf => ?_)
            · refine mg_goto C rfl ?_
              refine mg_iinc (lv' := [(0, .ref 4000000), (1, .ref v1), (2, .ref v2), (3, .ref v3), (4, .int (v4 + 6)), (5, .int r3), (6, .int r7)]) C rfl (Nat.le_of_ble_eq_true rfl) rfl (show _ + Int32.ofInt 6 = _ + 6 by congr 1) rfl ?_
              refine mg_goto C rfl ?_
              refine mg_sub (lv' := [(0, .ref 4000000), (1, .ref v1), (2, .ref v2), (3, .ref v3), (4, .int (v4 + 6))]) (by simp) ?_
              exact hk23 _ _ _ _ _ _ _ _ (by omega) (by omega) (by omega) (by omega) (by omega) (by omega) hf
            · refine mg_iconst (v := 0) C rfl (by decide) ?_
              exact mh_zreturn C rfl (by omega) (by omega) rfl hf
      · refine mg_iconst (v := 0) C rfl (by decide) ?_
        exact mh_zreturn C rfl (by omega) (by omega) rfl hf
    · refine mg_iconst (v := 1) C rfl (by decide) ?_
      refine mg_goto C rfl ?_
      refine mh_cVI (M' := qX12_sets) C rfl rfl aX12_sets iX12_sets sX12_sets hRm (by omega) (by decide) (by omega) (by omega) rfl rfl rfl (Nat.le_of_ble_eq_true rfl) rfl hf (fun hs => wX12_sets (by omega) (by omega) hs) (fun r12 c13 hf => ?_)
      refine mg_istore (lv' := [(0, .ref 4000000), (1, .ref v1), (2, .ref v2), (3, .ref v3), (4, .int v4), (5, .int r3), (6, .int r12)]) C rfl (Nat.le_of_ble_eq_true rfl) rfl ?_
      refine mg_aload_n C rfl rfl ?_
      refine mh_cVI (M' := qX12_thrown) C rfl rfl aX12_thrown iX12_thrown sX12_thrown hRm (by omega) (by decide) (by omega) (by omega) rfl rfl rfl (Nat.le_of_ble_eq_true rfl) rfl hf (fun hs => wX12_thrown (by omega) (by omega) hs) (fun r14 c15 hf => ?_)
      refine mg_iload C rfl rfl ?_
      refine mh_icmp_eq C rfl hf (fun e_899 hf => ?_) (fun e_899 hf => ?_)
      · refine mg_iload C rfl rfl ?_
        refine mh_if_ne C rfl hf (fun e_906 hf => ?_) (fun e_906 hf => ?_)
        · refine mg_goto C rfl ?_
          refine mg_iinc (lv' := [(0, .ref 4000000), (1, .ref v1), (2, .ref v2), (3, .ref v3), (4, .int (v4 + 6)), (5, .int r3), (6, .int r12)]) C rfl (Nat.le_of_ble_eq_true rfl) rfl (show _ + Int32.ofInt 6 = _ + 6 by congr 1) rfl ?_
          refine mg_goto C rfl ?_
          refine mg_sub (lv' := [(0, .ref 4000000), (1, .ref v1), (2, .ref v2), (3, .ref v3), (4, .int (v4 + 6))]) (by simp) ?_
          exact hk23 _ _ _ _ _ _ _ _ (by omega) (by omega) (by omega) (by omega) (by omega) (by omega) hf
        · refine mg_aload_n C rfl rfl ?_
          refine mg_iconst (v := 0) C rfl (by decide) ?_
          refine mh_aL C rfl hf (fun x16 hf => ?_)
          refine mg_iload C rfl rfl ?_
          refine mh_if_eq C rfl hf (fun e_914 hf => ?_) (fun e_914 hf => ?_)
          · refine mg_lconst (v := 0) C rfl (by decide) ?_
            refine mg_lcmp C rfl ?_
            refine mh_if_eq C rfl hf (fun e_923 hf => ?_) (fun e_923 hf => ?_)
            · refine mg_goto C rfl ?_
              refine mg_iinc (lv' := [(0, .ref 4000000), (1, .ref v1), (2, .ref v2), (3, .ref v3), (4, .int (v4 + 6)), (5, .int r3), (6, .int r12)]) C rfl (Nat.le_of_ble_eq_true rfl) rfl (show _ + Int32.ofInt 6 = _ + 6 by congr 1) rfl ?_
              refine mg_goto C rfl ?_
              refine mg_sub (lv' := [(0, .ref 4000000), (1, .ref v1), (2, .ref v2), (3, .ref v3), (4, .int (v4 + 6))]) (by simp) ?_
              exact hk23 _ _ _ _ _ _ _ _ (by omega) (by omega) (by omega) (by omega) (by omega) (by omega) hf
            · refine mg_iconst (v := 0) C rfl (by decide) ?_
              exact mh_zreturn C rfl (by omega) (by omega) rfl hf
          · refine mg_lconst (v := 1) C rfl (by decide) ?_
            refine mg_goto C rfl ?_
            refine mg_lcmp C rfl ?_
            refine mh_if_eq C rfl hf (fun e_923 hf => ?_) (fun e_923 hf => ?_)
            · refine mg_goto C rfl ?_
              refine mg_iinc (lv' := [(0, .ref 4000000), (1, .ref v1), (2, .ref v2), (3, .ref v3), (4, .int (v4 + 6)), (5, .int r3), (6, .int r12)]) C rfl (Nat.le_of_ble_eq_true rfl) rfl (show _ + Int32.ofInt 6 = _ + 6 by congr 1) rfl ?_
              refine mg_goto C rfl ?_
              refine mg_sub (lv' := [(0, .ref 4000000), (1, .ref v1), (2, .ref v2), (3, .ref v3), (4, .int (v4 + 6))]) (by simp) ?_
              exact hk23 _ _ _ _ _ _ _ _ (by omega) (by omega) (by omega) (by omega) (by omega) (by omega) hf
            · refine mg_iconst (v := 0) C rfl (by decide) ?_
              exact mh_zreturn C rfl (by omega) (by omega) rfl hf
      · refine mg_iconst (v := 0) C rfl (by decide) ?_
        exact mh_zreturn C rfl (by omega) (by omega) rfl hf
  · refine mg_iconst (v := 1) C rfl (by decide) ?_
    refine mg_goto C rfl ?_
    refine mg_aload_n C rfl rfl ?_
    refine mu_cS (kc := 1) (tn := 1) (M' := qL_sets) C rfl rfl awL_sets tL_sets hRm (by omega) (by decide) (by omega) (by omega) rfl rfl (Nat.le_of_ble_eq_true rfl) rfl hQ hf (fun hs => wL_sets (by omega) (by omega) hs) (fun r17 c18 n hn1 hn2 hf => ?_)
    refine mg_istore (lv' := [(0, .ref 4000000), (1, .ref v1), (2, .ref v2), (3, .ref v3), (4, .int v4), (5, .int r17)]) C rfl (Nat.le_of_ble_eq_true rfl) rfl ?_
    refine mg_aload_n C rfl rfl ?_
    refine mg_aload_n C rfl rfl ?_
    refine mg_iload C rfl rfl ?_
    refine mg_iconst (v := 1) C rfl (by decide) ?_
    refine mg_iadd C rfl ?_
    refine mh_sc hX C rfl hf (fun x19 hf => ?_)
    refine mg_aload_n C rfl rfl ?_
    refine mg_iload C rfl rfl ?_
    refine mg_iconst (v := 2) C rfl (by decide) ?_
    refine mg_iadd C rfl ?_
    refine mh_sc hX C rfl hf (fun x20 hf => ?_)
    refine mh_if_eq C rfl hf (fun e_880 hf => ?_) (fun e_880 hf => ?_)
    · refine mg_iconst (v := 0) C rfl (by decide) ?_
      refine mh_cVI (M' := qX12_sets) C rfl rfl aX12_sets iX12_sets sX12_sets hRm (by omega) (by decide) (by omega) (by omega) rfl rfl rfl (Nat.le_of_ble_eq_true rfl) rfl hf (fun hs => wX12_sets (by omega) (by omega) hs) (fun r21 c22 hf => ?_)
      refine mg_istore (lv' := [(0, .ref 4000000), (1, .ref v1), (2, .ref v2), (3, .ref v3), (4, .int v4), (5, .int r17), (6, .int r21)]) C rfl (Nat.le_of_ble_eq_true rfl) rfl ?_
      refine mg_aload_n C rfl rfl ?_
      refine mh_cVI (M' := qX12_thrown) C rfl rfl aX12_thrown iX12_thrown sX12_thrown hRm (by omega) (by decide) (by omega) (by omega) rfl rfl rfl (Nat.le_of_ble_eq_true rfl) rfl hf (fun hs => wX12_thrown (by omega) (by omega) hs) (fun r23 c24 hf => ?_)
      refine mg_iload C rfl rfl ?_
      refine mh_icmp_eq C rfl hf (fun e_899 hf => ?_) (fun e_899 hf => ?_)
      · refine mg_iload C rfl rfl ?_
        refine mh_if_ne C rfl hf (fun e_906 hf => ?_) (fun e_906 hf => ?_)
        · refine mg_goto C rfl ?_
          refine mg_iinc (lv' := [(0, .ref 4000000), (1, .ref v1), (2, .ref v2), (3, .ref v3), (4, .int (v4 + 6)), (5, .int r17), (6, .int r21)]) C rfl (Nat.le_of_ble_eq_true rfl) rfl (show _ + Int32.ofInt 6 = _ + 6 by congr 1) rfl ?_
          refine mg_goto C rfl ?_
          refine mg_sub (lv' := [(0, .ref 4000000), (1, .ref v1), (2, .ref v2), (3, .ref v3), (4, .int (v4 + 6))]) (by simp) ?_
          exact hk23 _ _ _ _ _ _ _ _ (by omega) (by omega) (by omega) (by omega) (by omega) (by omega) hf
        · refine mg_aload_n C rfl rfl ?_
          refine mg_iconst (v := 0) C rfl (by decide) ?_
          refine mh_aL C rfl hf (fun x25 hf => ?_)
          refine mg_iload C rfl rfl ?_
          refine mh_if_eq C rfl hf (fun e_914 hf => ?_) (fun e_914 hf => ?_)
          · refine mg_lconst (v := 0) C rfl (by decide) ?_
            refine mg_lcmp C rfl ?_
            refine mh_if_eq C rfl hf (fun e_923 hf => ?_) (fun e_923 hf => ?_)
            · refine mg_goto C rfl ?_
              refine mg_iinc (lv' := [(0, .ref 4000000), (1, .ref v1), (2, .ref v2), (3, .ref v3), (4, .int (v4 + 6)), (5, .int r17), (6, .int r21)]) C rfl (Nat.le_of_ble_eq_true rfl) rfl (show _ + Int32.ofInt 6 = _ + 6 by congr 1) rfl ?_
              refine mg_goto C rfl ?_
              refine mg_sub (lv' := [(0, .ref 4000000), (1, .ref v1), (2, .ref v2), (3, .ref v3), (4, .int (v4 + 6))]) (by simp) ?_
              exact hk23 _ _ _ _ _ _ _ _ (by omega) (by omega) (by omega) (by omega) (by omega) (by omega) hf
            · refine mg_iconst (v := 0) C rfl (by decide) ?_
              exact mh_zreturn C rfl (by omega) (by omega) rfl hf
          · refine mg_lconst (v := 1) C rfl (by decide) ?_
            refine mg_goto C rfl ?_
            refine mg_lcmp C rfl ?_
            refine mh_if_eq C rfl hf (fun e_923 hf => ?_) (fun e_923 hf => ?_)
            · refine mg_goto C rfl ?_
              refine mg_iinc (lv' := [(0, .ref 4000000), (1, .ref v1), (2, .ref v2), (3, .ref v3), (4, .int (v4 + 6)), (5, .int r17), (6, .int r21)]) C rfl (Nat.le_of_ble_eq_true rfl) rfl (show _ + Int32.ofInt 6 = _ + 6 by congr 1) rfl ?_
              refine mg_goto C rfl ?_
              refine mg_sub (lv' := [(0, .ref 4000000), (1, .ref v1), (2, .ref v2), (3, .ref v3), (4, .int (v4 + 6))]) (by simp) ?_
              exact hk23 _ _ _ _ _ _ _ _ (by omega) (by omega) (by omega) (by omega) (by omega) (by omega) hf
            · refine mg_iconst (v := 0) C rfl (by decide) ?_
              exact mh_zreturn C rfl (by omega) (by omega) rfl hf
      · refine mg_iconst (v := 0) C rfl (by decide) ?_
        exact mh_zreturn C rfl (by omega) (by omega) rfl hf
    · refine mg_iconst (v := 1) C rfl (by decide) ?_
      refine mg_goto C rfl ?_
      refine mh_cVI (M' := qX12_sets) C rfl rfl aX12_sets iX12_sets sX12_sets hRm (by omega) (by decide) (by omega) (by omega) rfl rfl rfl (Nat.le_of_ble_eq_true rfl) rfl hf (fun hs => wX12_sets (by omega) (by omega) hs) (fun r26 c27 hf => ?_)
      refine mg_istore (lv' := [(0, .ref 4000000), (1, .ref v1), (2, .ref v2), (3, .ref v3), (4, .int v4), (5, .int r17), (6, .int r26)]) C rfl (Nat.le_of_ble_eq_true rfl) rfl ?_
      refine mg_aload_n C rfl rfl ?_
      refine mh_cVI (M' := qX12_thrown) C rfl rfl aX12_thrown iX12_thrown sX12_thrown hRm (by omega) (by decide) (by omega) (by omega) rfl rfl rfl (Nat.le_of_ble_eq_true rfl) rfl hf (fun hs => wX12_thrown (by omega) (by omega) hs) (fun r28 c29 hf => ?_)
      refine mg_iload C rfl rfl ?_
      refine mh_icmp_eq C rfl hf (fun e_899 hf => ?_) (fun e_899 hf => ?_)
      · refine mg_iload C rfl rfl ?_
        refine mh_if_ne C rfl hf (fun e_906 hf => ?_) (fun e_906 hf => ?_)
        · refine mg_goto C rfl ?_
          refine mg_iinc (lv' := [(0, .ref 4000000), (1, .ref v1), (2, .ref v2), (3, .ref v3), (4, .int (v4 + 6)), (5, .int r17), (6, .int r26)]) C rfl (Nat.le_of_ble_eq_true rfl) rfl (show _ + Int32.ofInt 6 = _ + 6 by congr 1) rfl ?_
          refine mg_goto C rfl ?_
          refine mg_sub (lv' := [(0, .ref 4000000), (1, .ref v1), (2, .ref v2), (3, .ref v3), (4, .int (v4 + 6))]) (by simp) ?_
          exact hk23 _ _ _ _ _ _ _ _ (by omega) (by omega) (by omega) (by omega) (by omega) (by omega) hf
        · refine mg_aload_n C rfl rfl ?_
          refine mg_iconst (v := 0) C rfl (by decide) ?_
          refine mh_aL C rfl hf (fun x30 hf => ?_)
          refine mg_iload C rfl rfl ?_
          refine mh_if_eq C rfl hf (fun e_914 hf => ?_) (fun e_914 hf => ?_)
          · refine mg_lconst (v := 0) C rfl (by decide) ?_
            refine mg_lcmp C rfl ?_
            refine mh_if_eq C rfl hf (fun e_923 hf => ?_) (fun e_923 hf => ?_)
            · refine mg_goto C rfl ?_
              refine mg_iinc (lv' := [(0, .ref 4000000), (1, .ref v1), (2, .ref v2), (3, .ref v3), (4, .int (v4 + 6)), (5, .int r17), (6, .int r26)]) C rfl (Nat.le_of_ble_eq_true rfl) rfl (show _ + Int32.ofInt 6 = _ + 6 by congr 1) rfl ?_
              refine mg_goto C rfl ?_
              refine mg_sub (lv' := [(0, .ref 4000000), (1, .ref v1), (2, .ref v2), (3, .ref v3), (4, .int (v4 + 6))]) (by simp) ?_
              exact hk23 _ _ _ _ _ _ _ _ (by omega) (by omega) (by omega) (by omega) (by omega) (by omega) hf
            · refine mg_iconst (v := 0) C rfl (by decide) ?_
              exact mh_zreturn C rfl (by omega) (by omega) rfl hf
          · refine mg_lconst (v := 1) C rfl (by decide) ?_
            refine mg_goto C rfl ?_
            refine mg_lcmp C rfl ?_
            refine mh_if_eq C rfl hf (fun e_923 hf => ?_) (fun e_923 hf => ?_)
            · refine mg_goto C rfl ?_
              refine mg_iinc (lv' := [(0, .ref 4000000), (1, .ref v1), (2, .ref v2), (3, .ref v3), (4, .int (v4 + 6)), (5, .int r17), (6, .int r26)]) C rfl (Nat.le_of_ble_eq_true rfl) rfl (show _ + Int32.ofInt 6 = _ + 6 by congr 1) rfl ?_
              refine mg_goto C rfl ?_
              refine mg_sub (lv' := [(0, .ref 4000000), (1, .ref v1), (2, .ref v2), (3, .ref v3), (4, .int (v4 + 6))]) (by simp) ?_
              exact hk23 _ _ _ _ _ _ _ _ (by omega) (by omega) (by omega) (by omega) (by omega) (by omega) hf
            · refine mg_iconst (v := 0) C rfl (by decide) ?_
              exact mh_zreturn C rfl (by omega) (by omega) rfl hf
      · refine mg_iconst (v := 0) C rfl (by decide) ?_
        exact mh_zreturn C rfl (by omega) (by omega) rfl hf
def bL_law_931 (N : Nat) (xs : Nat → Int32) (L : Nat)  (k23 : Nat → Nat → Nat → Int32 → mm_C → mR Int32) (v1 : Nat) (v2 : Nat) (v3 : Nat) (v4 : Int32) (c : mm_C) : mR Int32 :=
  Option.bind (sc xs L (v4 + (1 : Int32))) fun x1 => Option.bind (sc xs L (v4 + (2 : Int32))) fun x2 => Option.bind (sc xs L (v4 + (3 : Int32))) fun x3 => if x3 = 0 then (cV 11 v1 c (fX11_clouds N v1 x1 x2 (0 : Int32) c) fun r4 c5 => Option.bind (sc xs L (v4 + (1 : Int32))) fun x6 => Option.bind (sc xs L (v4 + (2 : Int32))) fun x7 => Option.bind (sc xs L (v4 + (3 : Int32))) fun x8 => if x8 = 0 then (cV 12 v2 c5 (fX12_clouds N v2 x6 x7 (0 : Int32) c5) fun r9 c10 => if r4 = r9 then (k23 v1 v2 v3 (v4 + 6) c10) else (rZ (0 : Int32) c10)) else (cV 12 v2 c5 (fX12_clouds N v2 x6 x7 (1 : Int32) c5) fun r11 c12 => if r4 = r11 then (k23 v1 v2 v3 (v4 + 6) c12) else (rZ (0 : Int32) c12))) else (cV 11 v1 c (fX11_clouds N v1 x1 x2 (1 : Int32) c) fun r13 c14 => Option.bind (sc xs L (v4 + (1 : Int32))) fun x15 => Option.bind (sc xs L (v4 + (2 : Int32))) fun x16 => Option.bind (sc xs L (v4 + (3 : Int32))) fun x17 => if x17 = 0 then (cV 12 v2 c14 (fX12_clouds N v2 x15 x16 (0 : Int32) c14) fun r18 c19 => if r13 = r18 then (k23 v1 v2 v3 (v4 + 6) c19) else (rZ (0 : Int32) c19)) else (cV 12 v2 c14 (fX12_clouds N v2 x15 x16 (1 : Int32) c14) fun r20 c21 => if r13 = r20 then (k23 v1 v2 v3 (v4 + 6) c21) else (rZ (0 : Int32) c21)))
set_option maxRecDepth 100000 in
theorem wL_law_931 {Z : mm_Z} {X : mm_T} {k w mc ms d n N : Nat} {Q : mm_O → mm_H → Prop} {xs : Nat → Int32} {L : Nat} (hX : scX Z X xs L) (hQ : ∀ o a b c, Q o (a, c) → Q o (b, c)) (C : mm_Ok Z qL_law X) (hRm : mt_R X = mm_rm d mc ms) (hd : 200 ≤ d) (hn : n + 4 < 1000000) (hk : k + 4 ≤ mc) (hw : w + 24 ≤ ms) {k23 : Nat → Nat → Nat → Int32 → mm_C → mR Int32} (hk23 : ∀ (v1 : Nat) (v2 : Nat) (v3 : Nat) (v4 : Int32) (c : mm_C) (k1 w1 n1 : Nat), k ≤ k1 → k1 ≤ k + 2 → w ≤ w1 → w1 ≤ w + 12 → n ≤ n1 → n1 ≤ n + 3 → hO 0 ovI n1 (k23 v1 v2 v3 v4 c) Q → mG Z qL_law X k1 w1 mc ms Q (23, [(0, .ref 4000000), (1, .ref v1), (2, .ref v2), (3, .ref v3), (4, .int v4)], [], (n1, c))) {v1 : Nat} {v2 : Nat} {v3 : Nat} {v4 : Int32} {c : mm_C} (hf : hO 0 ovI n (bL_law_931 N xs L  k23 v1 v2 v3 v4 c) Q) : mG Z qL_law X k w mc ms Q (931, [(0, .ref 4000000), (1, .ref v1), (2, .ref v2), (3, .ref v3), (4, .int v4)], [], (n, c)) := by
  unfold bL_law_931 at hf
  refine mg_aload_n C rfl rfl ?_
  refine mg_aload_n C rfl rfl ?_
  refine mg_iload C rfl rfl ?_
  refine mg_iconst (v := 1) C rfl (by decide) ?_
  refine mg_iadd C rfl ?_
  refine mh_sc hX C rfl hf (fun x1 hf => ?_)
  refine mg_aload_n C rfl rfl ?_
  refine mg_iload C rfl rfl ?_
  refine mg_iconst (v := 2) C rfl (by decide) ?_
  refine mg_iadd C rfl ?_
  refine mh_sc hX C rfl hf (fun x2 hf => ?_)
  refine mg_aload_n C rfl rfl ?_
  refine mg_iload C rfl rfl ?_
  refine mg_iconst (v := 3) C rfl (by decide) ?_
  refine mg_iadd C rfl ?_
  refine mh_sc hX C rfl hf (fun x3 hf => ?_)
  refine mh_if_eq C rfl hf (fun e_950 hf => ?_) (fun e_950 hf => ?_)
  · refine mg_iconst (v := 0) C rfl (by decide) ?_
    refine mh_cVI (M' := qX11_clouds) C rfl rfl aX11_clouds iX11_clouds sX11_clouds hRm (by omega) (by decide) (by omega) (by omega) rfl rfl rfl (Nat.le_of_ble_eq_true rfl) rfl hf (fun hs => wX11_clouds (by omega) (by omega) hs) (fun r4 c5 hf => ?_)
    refine mg_aload_n C rfl rfl ?_
    refine mg_aload_n C rfl rfl ?_
    refine mg_iload C rfl rfl ?_
    refine mg_iconst (v := 1) C rfl (by decide) ?_
    refine mg_iadd C rfl ?_
    refine mh_sc hX C rfl hf (fun x6 hf => ?_)
    refine mg_aload_n C rfl rfl ?_
    refine mg_iload C rfl rfl ?_
    refine mg_iconst (v := 2) C rfl (by decide) ?_
    refine mg_iadd C rfl ?_
    refine mh_sc hX C rfl hf (fun x7 hf => ?_)
    refine mg_aload_n C rfl rfl ?_
    refine mg_iload C rfl rfl ?_
    refine mg_iconst (v := 3) C rfl (by decide) ?_
    refine mg_iadd C rfl ?_
    refine mh_sc hX C rfl hf (fun x8 hf => ?_)
    refine mh_if_eq C rfl hf (fun e_980 hf => ?_) (fun e_980 hf => ?_)
    · refine mg_iconst (v := 0) C rfl (by decide) ?_
      refine mh_cVI (M' := qX12_clouds) C rfl rfl aX12_clouds iX12_clouds sX12_clouds hRm (by omega) (by decide) (by omega) (by omega) rfl rfl rfl (Nat.le_of_ble_eq_true rfl) rfl hf (fun hs => wX12_clouds (by omega) (by omega) hs) (fun r9 c10 hf => ?_)
      refine mh_icmp_eq C rfl hf (fun e_991 hf => ?_) (fun e_991 hf => ?_)
      · refine mg_iinc (lv' := [(0, .ref 4000000), (1, .ref v1), (2, .ref v2), (3, .ref v3), (4, .int (v4 + 6))]) C rfl (Nat.le_of_ble_eq_true rfl) rfl (show _ + Int32.ofInt 6 = _ + 6 by congr 1) rfl ?_
        refine mg_goto C rfl ?_
        exact hk23 _ _ _ _ _ _ _ _ (by omega) (by omega) (by omega) (by omega) (by omega) (by omega) hf
      · refine mg_iconst (v := 0) C rfl (by decide) ?_
        exact mh_zreturn C rfl (by omega) (by omega) rfl hf
    · refine mg_iconst (v := 1) C rfl (by decide) ?_
      refine mg_goto C rfl ?_
      refine mh_cVI (M' := qX12_clouds) C rfl rfl aX12_clouds iX12_clouds sX12_clouds hRm (by omega) (by decide) (by omega) (by omega) rfl rfl rfl (Nat.le_of_ble_eq_true rfl) rfl hf (fun hs => wX12_clouds (by omega) (by omega) hs) (fun r11 c12 hf => ?_)
      refine mh_icmp_eq C rfl hf (fun e_991 hf => ?_) (fun e_991 hf => ?_)
      · refine mg_iinc (lv' := [(0, .ref 4000000), (1, .ref v1), (2, .ref v2), (3, .ref v3), (4, .int (v4 + 6))]) C rfl (Nat.le_of_ble_eq_true rfl) rfl (show _ + Int32.ofInt 6 = _ + 6 by congr 1) rfl ?_
        refine mg_goto C rfl ?_
        exact hk23 _ _ _ _ _ _ _ _ (by omega) (by omega) (by omega) (by omega) (by omega) (by omega) hf
      · refine mg_iconst (v := 0) C rfl (by decide) ?_
        exact mh_zreturn C rfl (by omega) (by omega) rfl hf
  · refine mg_iconst (v := 1) C rfl (by decide) ?_
    refine mg_goto C rfl ?_
    refine mh_cVI (M' := qX11_clouds) C rfl rfl aX11_clouds iX11_clouds sX11_clouds hRm (by omega) (by decide) (by omega) (by omega) rfl rfl rfl (Nat.le_of_ble_eq_true rfl) rfl hf (fun hs => wX11_clouds (by omega) (by omega) hs) (fun r13 c14 hf => ?_)
    refine mg_aload_n C rfl rfl ?_
    refine mg_aload_n C rfl rfl ?_
    refine mg_iload C rfl rfl ?_
    refine mg_iconst (v := 1) C rfl (by decide) ?_
    refine mg_iadd C rfl ?_
    refine mh_sc hX C rfl hf (fun x15 hf => ?_)
    refine mg_aload_n C rfl rfl ?_
    refine mg_iload C rfl rfl ?_
    refine mg_iconst (v := 2) C rfl (by decide) ?_
    refine mg_iadd C rfl ?_
    refine mh_sc hX C rfl hf (fun x16 hf => ?_)
    refine mg_aload_n C rfl rfl ?_
    refine mg_iload C rfl rfl ?_
    refine mg_iconst (v := 3) C rfl (by decide) ?_
    refine mg_iadd C rfl ?_
    refine mh_sc hX C rfl hf (fun x17 hf => ?_)
    refine mh_if_eq C rfl hf (fun e_980 hf => ?_) (fun e_980 hf => ?_)
    · refine mg_iconst (v := 0) C rfl (by decide) ?_
      refine mh_cVI (M' := qX12_clouds) C rfl rfl aX12_clouds iX12_clouds sX12_clouds hRm (by omega) (by decide) (by omega) (by omega) rfl rfl rfl (Nat.le_of_ble_eq_true rfl) rfl hf (fun hs => wX12_clouds (by omega) (by omega) hs) (fun r18 c19 hf => ?_)
      refine mh_icmp_eq C rfl hf (fun e_991 hf => ?_) (fun e_991 hf => ?_)
      · refine mg_iinc (lv' := [(0, .ref 4000000), (1, .ref v1), (2, .ref v2), (3, .ref v3), (4, .int (v4 + 6))]) C rfl (Nat.le_of_ble_eq_true rfl) rfl (show _ + Int32.ofInt 6 = _ + 6 by congr 1) rfl ?_
        refine mg_goto C rfl ?_
        exact hk23 _ _ _ _ _ _ _ _ (by omega) (by omega) (by omega) (by omega) (by omega) (by omega) hf
      · refine mg_iconst (v := 0) C rfl (by decide) ?_
        exact mh_zreturn C rfl (by omega) (by omega) rfl hf
    · refine mg_iconst (v := 1) C rfl (by decide) ?_
      refine mg_goto C rfl ?_
      refine mh_cVI (M' := qX12_clouds) C rfl rfl aX12_clouds iX12_clouds sX12_clouds hRm (by omega) (by decide) (by omega) (by omega) rfl rfl rfl (Nat.le_of_ble_eq_true rfl) rfl hf (fun hs => wX12_clouds (by omega) (by omega) hs) (fun r20 c21 hf => ?_)
      refine mh_icmp_eq C rfl hf (fun e_991 hf => ?_) (fun e_991 hf => ?_)
      · refine mg_iinc (lv' := [(0, .ref 4000000), (1, .ref v1), (2, .ref v2), (3, .ref v3), (4, .int (v4 + 6))]) C rfl (Nat.le_of_ble_eq_true rfl) rfl (show _ + Int32.ofInt 6 = _ + 6 by congr 1) rfl ?_
        refine mg_goto C rfl ?_
        exact hk23 _ _ _ _ _ _ _ _ (by omega) (by omega) (by omega) (by omega) (by omega) (by omega) hf
      · refine mg_iconst (v := 0) C rfl (by decide) ?_
        exact mh_zreturn C rfl (by omega) (by omega) rfl hf
def bL_law_996 (N : Nat) (xs : Nat → Int32) (L : Nat)  (k23 : Nat → Nat → Nat → Int32 → mm_C → mR Int32) (v1 : Nat) (v2 : Nat) (v3 : Nat) (v4 : Int32) (c : mm_C) : mR Int32 :=
  cV 11 v1 c (fX11_undo N v1 c) fun r1 c2 => cV 12 v2 c2 (fX12_undo N v2 c2) fun r3 c4 => if r1 = r3 then (k23 v1 v2 v3 (v4 + 6) c4) else (rZ (0 : Int32) c4)
set_option maxRecDepth 100000 in
theorem wL_law_996 {Z : mm_Z} {X : mm_T} {k w mc ms d n N : Nat} {Q : mm_O → mm_H → Prop} {xs : Nat → Int32} {L : Nat} (hX : scX Z X xs L) (hQ : ∀ o a b c, Q o (a, c) → Q o (b, c)) (C : mm_Ok Z qL_law X) (hRm : mt_R X = mm_rm d mc ms) (hd : 200 ≤ d) (hn : n + 4 < 1000000) (hk : k + 4 ≤ mc) (hw : w + 24 ≤ ms) {k23 : Nat → Nat → Nat → Int32 → mm_C → mR Int32} (hk23 : ∀ (v1 : Nat) (v2 : Nat) (v3 : Nat) (v4 : Int32) (c : mm_C) (k1 w1 n1 : Nat), k ≤ k1 → k1 ≤ k + 2 → w ≤ w1 → w1 ≤ w + 12 → n ≤ n1 → n1 ≤ n + 3 → hO 0 ovI n1 (k23 v1 v2 v3 v4 c) Q → mG Z qL_law X k1 w1 mc ms Q (23, [(0, .ref 4000000), (1, .ref v1), (2, .ref v2), (3, .ref v3), (4, .int v4)], [], (n1, c))) {v1 : Nat} {v2 : Nat} {v3 : Nat} {v4 : Int32} {c : mm_C} (hf : hO 0 ovI n (bL_law_996 N xs L  k23 v1 v2 v3 v4 c) Q) : mG Z qL_law X k w mc ms Q (996, [(0, .ref 4000000), (1, .ref v1), (2, .ref v2), (3, .ref v3), (4, .int v4)], [], (n, c)) := by
  unfold bL_law_996 at hf
  refine mg_aload_n C rfl rfl ?_
  refine mh_cVI (M' := qX11_undo) C rfl rfl aX11_undo iX11_undo sX11_undo hRm (by omega) (by decide) (by omega) (by omega) rfl rfl rfl (Nat.le_of_ble_eq_true rfl) rfl hf (fun hs => wX11_undo (by omega) (by omega) hs) (fun r1 c2 hf => ?_)
  refine mg_aload_n C rfl rfl ?_
  refine mh_cVI (M' := qX12_undo) C rfl rfl aX12_undo iX12_undo sX12_undo hRm (by omega) (by decide) (by omega) (by omega) rfl rfl rfl (Nat.le_of_ble_eq_true rfl) rfl hf (fun hs => wX12_undo (by omega) (by omega) hs) (fun r3 c4 hf => ?_)
  refine mh_icmp_eq C rfl hf (fun e_1004 hf => ?_) (fun e_1004 hf => ?_)
  · refine mg_iinc (lv' := [(0, .ref 4000000), (1, .ref v1), (2, .ref v2), (3, .ref v3), (4, .int (v4 + 6))]) C rfl (Nat.le_of_ble_eq_true rfl) rfl (show _ + Int32.ofInt 6 = _ + 6 by congr 1) rfl ?_
    refine mg_goto C rfl ?_
    exact hk23 _ _ _ _ _ _ _ _ (by omega) (by omega) (by omega) (by omega) (by omega) (by omega) hf
  · refine mg_iconst (v := 0) C rfl (by decide) ?_
    exact mh_zreturn C rfl (by omega) (by omega) rfl hf
def bL_law_1009 (N : Nat) (xs : Nat → Int32) (L : Nat)  (k23 : Nat → Nat → Nat → Int32 → mm_C → mR Int32) (v1 : Nat) (v2 : Nat) (v3 : Nat) (v4 : Int32) (c : mm_C) : mR Int32 :=
  Option.bind (sc xs L (v4 + (1 : Int32))) fun x1 => Option.bind (sc xs L (v4 + (2 : Int32))) fun x2 => cS (fL_day N v1 x1 x2 v3 c) fun r3 c4 => Option.bind (sc xs L (v4 + (1 : Int32))) fun x5 => Option.bind (sc xs L (v4 + (2 : Int32))) fun x6 => cV 12 v2 c4 (fX12_day N v2 x5 x6 c4) fun r7 c8 => cV 12 v2 c8 (fX12_thrown N v2 c8) fun r9 c10 => if r9 = r3 then (if ¬ r3 = 0 then (k23 v1 v2 v3 (v4 + 6) c10) else (Option.bind (aL c10 v3 (0 : Int32)) fun x11 => if (lg_cmp x11 r7.toInt64) = 0 then (k23 v1 v2 v3 (v4 + 6) c10) else (rZ (0 : Int32) c10))) else (rZ (0 : Int32) c10)
set_option maxRecDepth 100000 in
theorem wL_law_1009 {Z : mm_Z} {X : mm_T} {k w mc ms d n N : Nat} {Q : mm_O → mm_H → Prop} {xs : Nat → Int32} {L : Nat} (hX : scX Z X xs L) (hQ : ∀ o a b c, Q o (a, c) → Q o (b, c)) (C : mm_Ok Z qL_law X) (hRm : mt_R X = mm_rm d mc ms) (hd : 200 ≤ d) (hn : n + 4 < 1000000) (hk : k + 4 ≤ mc) (hw : w + 24 ≤ ms) {k23 : Nat → Nat → Nat → Int32 → mm_C → mR Int32} (hk23 : ∀ (v1 : Nat) (v2 : Nat) (v3 : Nat) (v4 : Int32) (c : mm_C) (k1 w1 n1 : Nat), k ≤ k1 → k1 ≤ k + 2 → w ≤ w1 → w1 ≤ w + 12 → n ≤ n1 → n1 ≤ n + 3 → hO 0 ovI n1 (k23 v1 v2 v3 v4 c) Q → mG Z qL_law X k1 w1 mc ms Q (23, [(0, .ref 4000000), (1, .ref v1), (2, .ref v2), (3, .ref v3), (4, .int v4)], [], (n1, c))) {v1 : Nat} {v2 : Nat} {v3 : Nat} {v4 : Int32} {c : mm_C} (hf : hO 0 ovI n (bL_law_1009 N xs L  k23 v1 v2 v3 v4 c) Q) : mG Z qL_law X k w mc ms Q (1009, [(0, .ref 4000000), (1, .ref v1), (2, .ref v2), (3, .ref v3), (4, .int v4)], [], (n, c)) := by
  unfold bL_law_1009 at hf
  refine mg_aload_n C rfl rfl ?_
  refine mg_aload_n C rfl rfl ?_
  refine mg_iload C rfl rfl ?_
  refine mg_iconst (v := 1) C rfl (by decide) ?_
  refine mg_iadd C rfl ?_
  refine mh_sc hX C rfl hf (fun x1 hf => ?_)
  refine mg_aload_n C rfl rfl ?_
  refine mg_iload C rfl rfl ?_
  refine mg_iconst (v := 2) C rfl (by decide) ?_
  refine mg_iadd C rfl ?_
  refine mh_sc hX C rfl hf (fun x2 hf => ?_)
  refine mg_aload_n C rfl rfl ?_
  refine mu_cS (kc := 1) (tn := 1) (M' := qL_day) C rfl rfl awL_day tL_day hRm (by omega) (by decide) (by omega) (by omega) rfl rfl (Nat.le_of_ble_eq_true rfl) rfl hQ hf (fun hs => wL_day (by omega) (by omega) hs) (fun r3 c4 n hn1 hn2 hf => ?_)
  refine mg_istore (lv' := [(0, .ref 4000000), (1, .ref v1), (2, .ref v2), (3, .ref v3), (4, .int v4), (5, .int r3)]) C rfl (Nat.le_of_ble_eq_true rfl) rfl ?_
  refine mg_aload_n C rfl rfl ?_
  refine mg_aload_n C rfl rfl ?_
  refine mg_iload C rfl rfl ?_
  refine mg_iconst (v := 1) C rfl (by decide) ?_
  refine mg_iadd C rfl ?_
  refine mh_sc hX C rfl hf (fun x5 hf => ?_)
  refine mg_aload_n C rfl rfl ?_
  refine mg_iload C rfl rfl ?_
  refine mg_iconst (v := 2) C rfl (by decide) ?_
  refine mg_iadd C rfl ?_
  refine mh_sc hX C rfl hf (fun x6 hf => ?_)
  refine mh_cVI (M' := qX12_day) C rfl rfl aX12_day iX12_day sX12_day hRm (by omega) (by decide) (by omega) (by omega) rfl rfl rfl (Nat.le_of_ble_eq_true rfl) rfl hf (fun hs => wX12_day (by omega) (by omega) hs) (fun r7 c8 hf => ?_)
  refine mg_istore (lv' := [(0, .ref 4000000), (1, .ref v1), (2, .ref v2), (3, .ref v3), (4, .int v4), (5, .int r3), (6, .int r7)]) C rfl (Nat.le_of_ble_eq_true rfl) rfl ?_
  refine mg_aload_n C rfl rfl ?_
  refine mh_cVI (M' := qX12_thrown) C rfl rfl aX12_thrown iX12_thrown sX12_thrown hRm (by omega) (by decide) (by omega) (by omega) rfl rfl rfl (Nat.le_of_ble_eq_true rfl) rfl hf (fun hs => wX12_thrown (by omega) (by omega) hs) (fun r9 c10 hf => ?_)
  refine mg_iload C rfl rfl ?_
  refine mh_icmp_eq C rfl hf (fun e_1052 hf => ?_) (fun e_1052 hf => ?_)
  · refine mg_iload C rfl rfl ?_
    refine mh_if_ne C rfl hf (fun e_1059 hf => ?_) (fun e_1059 hf => ?_)
    · refine mg_goto C rfl ?_
      refine mg_iinc (lv' := [(0, .ref 4000000), (1, .ref v1), (2, .ref v2), (3, .ref v3), (4, .int (v4 + 6)), (5, .int r3), (6, .int r7)]) C rfl (Nat.le_of_ble_eq_true rfl) rfl (show _ + Int32.ofInt 6 = _ + 6 by congr 1) rfl ?_
      refine mg_goto C rfl ?_
      refine mg_sub (lv' := [(0, .ref 4000000), (1, .ref v1), (2, .ref v2), (3, .ref v3), (4, .int (v4 + 6))]) (by simp) ?_
      exact hk23 _ _ _ _ _ _ _ _ (by omega) (by omega) (by omega) (by omega) (by omega) (by omega) hf
    · refine mg_aload_n C rfl rfl ?_
      refine mg_iconst (v := 0) C rfl (by decide) ?_
      refine mh_aL C rfl hf (fun x11 hf => ?_)
      refine mg_iload C rfl rfl ?_
      refine mg_i2l C rfl ?_
      refine mg_lcmp C rfl ?_
      refine mh_if_eq C rfl hf (fun e_1069 hf => ?_) (fun e_1069 hf => ?_)
      · refine mg_goto C rfl ?_
        refine mg_iinc (lv' := [(0, .ref 4000000), (1, .ref v1), (2, .ref v2), (3, .ref v3), (4, .int (v4 + 6)), (5, .int r3), (6, .int r7)]) C rfl (Nat.le_of_ble_eq_true rfl) rfl (show _ + Int32.ofInt 6 = _ + 6 by congr 1) rfl ?_
        refine mg_goto C rfl ?_
        refine mg_sub (lv' := [(0, .ref 4000000), (1, .ref v1), (2, .ref v2), (3, .ref v3), (4, .int (v4 + 6))]) (by simp) ?_
        exact hk23 _ _ _ _ _ _ _ _ (by omega) (by omega) (by omega) (by omega) (by omega) (by omega) hf
      · refine mg_iconst (v := 0) C rfl (by decide) ?_
        exact mh_zreturn C rfl (by omega) (by omega) rfl hf
  · refine mg_iconst (v := 0) C rfl (by decide) ?_
    exact mh_zreturn C rfl (by omega) (by omega) rfl hf
def bL_law_1077 (N : Nat) (xs : Nat → Int32) (L : Nat)  (k23 : Nat → Nat → Nat → Int32 → mm_C → mR Int32) (v1 : Nat) (v2 : Nat) (v3 : Nat) (v4 : Int32) (c : mm_C) : mR Int32 :=
  cV 11 v1 c (fX11_best N v1 c) fun r1 c2 => cV 12 v2 c2 (fX12_best N v2 c2) fun r3 c4 => if r1 = r3 then (k23 v1 v2 v3 (v4 + 6) c4) else (rZ (0 : Int32) c4)
set_option maxRecDepth 100000 in
theorem wL_law_1077 {Z : mm_Z} {X : mm_T} {k w mc ms d n N : Nat} {Q : mm_O → mm_H → Prop} {xs : Nat → Int32} {L : Nat} (hX : scX Z X xs L) (hQ : ∀ o a b c, Q o (a, c) → Q o (b, c)) (C : mm_Ok Z qL_law X) (hRm : mt_R X = mm_rm d mc ms) (hd : 200 ≤ d) (hn : n + 4 < 1000000) (hk : k + 4 ≤ mc) (hw : w + 24 ≤ ms) {k23 : Nat → Nat → Nat → Int32 → mm_C → mR Int32} (hk23 : ∀ (v1 : Nat) (v2 : Nat) (v3 : Nat) (v4 : Int32) (c : mm_C) (k1 w1 n1 : Nat), k ≤ k1 → k1 ≤ k + 2 → w ≤ w1 → w1 ≤ w + 12 → n ≤ n1 → n1 ≤ n + 3 → hO 0 ovI n1 (k23 v1 v2 v3 v4 c) Q → mG Z qL_law X k1 w1 mc ms Q (23, [(0, .ref 4000000), (1, .ref v1), (2, .ref v2), (3, .ref v3), (4, .int v4)], [], (n1, c))) {v1 : Nat} {v2 : Nat} {v3 : Nat} {v4 : Int32} {c : mm_C} (hf : hO 0 ovI n (bL_law_1077 N xs L  k23 v1 v2 v3 v4 c) Q) : mG Z qL_law X k w mc ms Q (1077, [(0, .ref 4000000), (1, .ref v1), (2, .ref v2), (3, .ref v3), (4, .int v4)], [], (n, c)) := by
  unfold bL_law_1077 at hf
  refine mg_aload_n C rfl rfl ?_
  refine mh_cVI (M' := qX11_best) C rfl rfl aX11_best iX11_best sX11_best hRm (by omega) (by decide) (by omega) (by omega) rfl rfl rfl (Nat.le_of_ble_eq_true rfl) rfl hf (fun hs => wX11_best (by omega) (by omega) hs) (fun r1 c2 hf => ?_)
  refine mg_aload_n C rfl rfl ?_
  refine mh_cVI (M' := qX12_best) C rfl rfl aX12_best iX12_best sX12_best hRm (by omega) (by decide) (by omega) (by omega) rfl rfl rfl (Nat.le_of_ble_eq_true rfl) rfl hf (fun hs => wX12_best (by omega) (by omega) hs) (fun r3 c4 hf => ?_)
  refine mh_icmp_eq C rfl hf (fun e_1085 hf => ?_) (fun e_1085 hf => ?_)
  · refine mg_iinc (lv' := [(0, .ref 4000000), (1, .ref v1), (2, .ref v2), (3, .ref v3), (4, .int (v4 + 6))]) C rfl (Nat.le_of_ble_eq_true rfl) rfl (show _ + Int32.ofInt 6 = _ + 6 by congr 1) rfl ?_
    refine mg_goto C rfl ?_
    exact hk23 _ _ _ _ _ _ _ _ (by omega) (by omega) (by omega) (by omega) (by omega) (by omega) hf
  · refine mg_iconst (v := 0) C rfl (by decide) ?_
    exact mh_zreturn C rfl (by omega) (by omega) rfl hf
def bL_law_1090 (N : Nat) (xs : Nat → Int32) (L : Nat)  (k23 : Nat → Nat → Nat → Int32 → mm_C → mR Int32) (v1 : Nat) (v2 : Nat) (v3 : Nat) (v4 : Int32) (c : mm_C) : mR Int32 :=
  Option.bind (sc xs L (v4 + (1 : Int32))) fun x1 => cS (fL_most N v1 x1 v3 c) fun r2 c3 => Option.bind (sc xs L (v4 + (1 : Int32))) fun x4 => cV 12 v2 c3 (fX12_most N v2 x4 c3) fun r5 c6 => cV 12 v2 c6 (fX12_thrown N v2 c6) fun r7 c8 => if r7 = r2 then (if ¬ r2 = 0 then (k23 v1 v2 v3 (v4 + 6) c8) else (Option.bind (aL c8 v3 (0 : Int32)) fun x9 => if (lg_cmp x9 r5.toInt64) = 0 then (k23 v1 v2 v3 (v4 + 6) c8) else (rZ (0 : Int32) c8))) else (rZ (0 : Int32) c8)
set_option maxRecDepth 100000 in
theorem wL_law_1090 {Z : mm_Z} {X : mm_T} {k w mc ms d n N : Nat} {Q : mm_O → mm_H → Prop} {xs : Nat → Int32} {L : Nat} (hX : scX Z X xs L) (hQ : ∀ o a b c, Q o (a, c) → Q o (b, c)) (C : mm_Ok Z qL_law X) (hRm : mt_R X = mm_rm d mc ms) (hd : 200 ≤ d) (hn : n + 4 < 1000000) (hk : k + 4 ≤ mc) (hw : w + 24 ≤ ms) {k23 : Nat → Nat → Nat → Int32 → mm_C → mR Int32} (hk23 : ∀ (v1 : Nat) (v2 : Nat) (v3 : Nat) (v4 : Int32) (c : mm_C) (k1 w1 n1 : Nat), k ≤ k1 → k1 ≤ k + 2 → w ≤ w1 → w1 ≤ w + 12 → n ≤ n1 → n1 ≤ n + 3 → hO 0 ovI n1 (k23 v1 v2 v3 v4 c) Q → mG Z qL_law X k1 w1 mc ms Q (23, [(0, .ref 4000000), (1, .ref v1), (2, .ref v2), (3, .ref v3), (4, .int v4)], [], (n1, c))) {v1 : Nat} {v2 : Nat} {v3 : Nat} {v4 : Int32} {c : mm_C} (hf : hO 0 ovI n (bL_law_1090 N xs L  k23 v1 v2 v3 v4 c) Q) : mG Z qL_law X k w mc ms Q (1090, [(0, .ref 4000000), (1, .ref v1), (2, .ref v2), (3, .ref v3), (4, .int v4)], [], (n, c)) := by
  unfold bL_law_1090 at hf
  refine mg_aload_n C rfl rfl ?_
  refine mg_aload_n C rfl rfl ?_
  refine mg_iload C rfl rfl ?_
  refine mg_iconst (v := 1) C rfl (by decide) ?_
  refine mg_iadd C rfl ?_
  refine mh_sc hX C rfl hf (fun x1 hf => ?_)
  refine mg_aload_n C rfl rfl ?_
  refine mu_cS (kc := 1) (tn := 1) (M' := qL_most) C rfl rfl awL_most tL_most hRm (by omega) (by decide) (by omega) (by omega) rfl rfl (Nat.le_of_ble_eq_true rfl) rfl hQ hf (fun hs => wL_most (by omega) (by omega) hs) (fun r2 c3 n hn1 hn2 hf => ?_)
  refine mg_istore (lv' := [(0, .ref 4000000), (1, .ref v1), (2, .ref v2), (3, .ref v3), (4, .int v4), (5, .int r2)]) C rfl (Nat.le_of_ble_eq_true rfl) rfl ?_
  refine mg_aload_n C rfl rfl ?_
  refine mg_aload_n C rfl rfl ?_
  refine mg_iload C rfl rfl ?_
  refine mg_iconst (v := 1) C rfl (by decide) ?_
  refine mg_iadd C rfl ?_
  refine mh_sc hX C rfl hf (fun x4 hf => ?_)
  refine mh_cVI (M' := qX12_most) C rfl rfl aX12_most iX12_most sX12_most hRm (by omega) (by decide) (by omega) (by omega) rfl rfl rfl (Nat.le_of_ble_eq_true rfl) rfl hf (fun hs => wX12_most (by omega) (by omega) hs) (fun r5 c6 hf => ?_)
  refine mg_istore (lv' := [(0, .ref 4000000), (1, .ref v1), (2, .ref v2), (3, .ref v3), (4, .int v4), (5, .int r2), (6, .int r5)]) C rfl (Nat.le_of_ble_eq_true rfl) rfl ?_
  refine mg_aload_n C rfl rfl ?_
  refine mh_cVI (M' := qX12_thrown) C rfl rfl aX12_thrown iX12_thrown sX12_thrown hRm (by omega) (by decide) (by omega) (by omega) rfl rfl rfl (Nat.le_of_ble_eq_true rfl) rfl hf (fun hs => wX12_thrown (by omega) (by omega) hs) (fun r7 c8 hf => ?_)
  refine mg_iload C rfl rfl ?_
  refine mh_icmp_eq C rfl hf (fun e_1121 hf => ?_) (fun e_1121 hf => ?_)
  · refine mg_iload C rfl rfl ?_
    refine mh_if_ne C rfl hf (fun e_1128 hf => ?_) (fun e_1128 hf => ?_)
    · refine mg_goto C rfl ?_
      refine mg_iinc (lv' := [(0, .ref 4000000), (1, .ref v1), (2, .ref v2), (3, .ref v3), (4, .int (v4 + 6)), (5, .int r2), (6, .int r5)]) C rfl (Nat.le_of_ble_eq_true rfl) rfl (show _ + Int32.ofInt 6 = _ + 6 by congr 1) rfl ?_
      refine mg_goto C rfl ?_
      refine mg_sub (lv' := [(0, .ref 4000000), (1, .ref v1), (2, .ref v2), (3, .ref v3), (4, .int (v4 + 6))]) (by simp) ?_
      exact hk23 _ _ _ _ _ _ _ _ (by omega) (by omega) (by omega) (by omega) (by omega) (by omega) hf
    · refine mg_aload_n C rfl rfl ?_
      refine mg_iconst (v := 0) C rfl (by decide) ?_
      refine mh_aL C rfl hf (fun x9 hf => ?_)
      refine mg_iload C rfl rfl ?_
      refine mg_i2l C rfl ?_
      refine mg_lcmp C rfl ?_
      refine mh_if_eq C rfl hf (fun e_1138 hf => ?_) (fun e_1138 hf => ?_)
      · refine mg_goto C rfl ?_
        refine mg_iinc (lv' := [(0, .ref 4000000), (1, .ref v1), (2, .ref v2), (3, .ref v3), (4, .int (v4 + 6)), (5, .int r2), (6, .int r5)]) C rfl (Nat.le_of_ble_eq_true rfl) rfl (show _ + Int32.ofInt 6 = _ + 6 by congr 1) rfl ?_
        refine mg_goto C rfl ?_
        refine mg_sub (lv' := [(0, .ref 4000000), (1, .ref v1), (2, .ref v2), (3, .ref v3), (4, .int (v4 + 6))]) (by simp) ?_
        exact hk23 _ _ _ _ _ _ _ _ (by omega) (by omega) (by omega) (by omega) (by omega) (by omega) hf
      · refine mg_iconst (v := 0) C rfl (by decide) ?_
        exact mh_zreturn C rfl (by omega) (by omega) rfl hf
  · refine mg_iconst (v := 0) C rfl (by decide) ?_
    exact mh_zreturn C rfl (by omega) (by omega) rfl hf
def bL_law_1146 (N : Nat) (xs : Nat → Int32) (L : Nat)  (k23 : Nat → Nat → Nat → Int32 → mm_C → mR Int32) (v1 : Nat) (v2 : Nat) (v3 : Nat) (v4 : Int32) (c : mm_C) : mR Int32 :=
  Option.bind (sc xs L (v4 + (1 : Int32))) fun x1 => cS (fL_order N v1 x1 v3 c) fun r2 c3 => Option.bind (sc xs L (v4 + (1 : Int32))) fun x4 => cV 12 v2 c3 (fX12_order N v2 x4 c3) fun r5 c6 => cV 12 v2 c6 (fX12_thrown N v2 c6) fun r7 c8 => if r7 = r2 then (if ¬ r2 = 0 then (k23 v1 v2 v3 (v4 + 6) c8) else (Option.bind (aL c8 v3 (0 : Int32)) fun x9 => if (lg_cmp x9 r5.toInt64) = 0 then (k23 v1 v2 v3 (v4 + 6) c8) else (rZ (0 : Int32) c8))) else (rZ (0 : Int32) c8)
set_option maxRecDepth 100000 in
theorem wL_law_1146 {Z : mm_Z} {X : mm_T} {k w mc ms d n N : Nat} {Q : mm_O → mm_H → Prop} {xs : Nat → Int32} {L : Nat} (hX : scX Z X xs L) (hQ : ∀ o a b c, Q o (a, c) → Q o (b, c)) (C : mm_Ok Z qL_law X) (hRm : mt_R X = mm_rm d mc ms) (hd : 200 ≤ d) (hn : n + 4 < 1000000) (hk : k + 4 ≤ mc) (hw : w + 24 ≤ ms) {k23 : Nat → Nat → Nat → Int32 → mm_C → mR Int32} (hk23 : ∀ (v1 : Nat) (v2 : Nat) (v3 : Nat) (v4 : Int32) (c : mm_C) (k1 w1 n1 : Nat), k ≤ k1 → k1 ≤ k + 2 → w ≤ w1 → w1 ≤ w + 12 → n ≤ n1 → n1 ≤ n + 3 → hO 0 ovI n1 (k23 v1 v2 v3 v4 c) Q → mG Z qL_law X k1 w1 mc ms Q (23, [(0, .ref 4000000), (1, .ref v1), (2, .ref v2), (3, .ref v3), (4, .int v4)], [], (n1, c))) {v1 : Nat} {v2 : Nat} {v3 : Nat} {v4 : Int32} {c : mm_C} (hf : hO 0 ovI n (bL_law_1146 N xs L  k23 v1 v2 v3 v4 c) Q) : mG Z qL_law X k w mc ms Q (1146, [(0, .ref 4000000), (1, .ref v1), (2, .ref v2), (3, .ref v3), (4, .int v4)], [], (n, c)) := by
  unfold bL_law_1146 at hf
  refine mg_aload_n C rfl rfl ?_
  refine mg_aload_n C rfl rfl ?_
  refine mg_iload C rfl rfl ?_
  refine mg_iconst (v := 1) C rfl (by decide) ?_
  refine mg_iadd C rfl ?_
  refine mh_sc hX C rfl hf (fun x1 hf => ?_)
  refine mg_aload_n C rfl rfl ?_
  refine mu_cS (kc := 1) (tn := 1) (M' := qL_order) C rfl rfl awL_order tL_order hRm (by omega) (by decide) (by omega) (by omega) rfl rfl (Nat.le_of_ble_eq_true rfl) rfl hQ hf (fun hs => wL_order (by omega) (by omega) hs) (fun r2 c3 n hn1 hn2 hf => ?_)
  refine mg_istore (lv' := [(0, .ref 4000000), (1, .ref v1), (2, .ref v2), (3, .ref v3), (4, .int v4), (5, .int r2)]) C rfl (Nat.le_of_ble_eq_true rfl) rfl ?_
  refine mg_aload_n C rfl rfl ?_
  refine mg_aload_n C rfl rfl ?_
  refine mg_iload C rfl rfl ?_
  refine mg_iconst (v := 1) C rfl (by decide) ?_
  refine mg_iadd C rfl ?_
  refine mh_sc hX C rfl hf (fun x4 hf => ?_)
  refine mh_cVI (M' := qX12_order) C rfl rfl aX12_order iX12_order sX12_order hRm (by omega) (by decide) (by omega) (by omega) rfl rfl rfl (Nat.le_of_ble_eq_true rfl) rfl hf (fun hs => wX12_order (by omega) (by omega) hs) (fun r5 c6 hf => ?_)
  refine mg_istore (lv' := [(0, .ref 4000000), (1, .ref v1), (2, .ref v2), (3, .ref v3), (4, .int v4), (5, .int r2), (6, .int r5)]) C rfl (Nat.le_of_ble_eq_true rfl) rfl ?_
  refine mg_aload_n C rfl rfl ?_
  refine mh_cVI (M' := qX12_thrown) C rfl rfl aX12_thrown iX12_thrown sX12_thrown hRm (by omega) (by decide) (by omega) (by omega) rfl rfl rfl (Nat.le_of_ble_eq_true rfl) rfl hf (fun hs => wX12_thrown (by omega) (by omega) hs) (fun r7 c8 hf => ?_)
  refine mg_iload C rfl rfl ?_
  refine mh_icmp_eq C rfl hf (fun e_1177 hf => ?_) (fun e_1177 hf => ?_)
  · refine mg_iload C rfl rfl ?_
    refine mh_if_ne C rfl hf (fun e_1184 hf => ?_) (fun e_1184 hf => ?_)
    · refine mg_goto C rfl ?_
      refine mg_iinc (lv' := [(0, .ref 4000000), (1, .ref v1), (2, .ref v2), (3, .ref v3), (4, .int (v4 + 6)), (5, .int r2), (6, .int r5)]) C rfl (Nat.le_of_ble_eq_true rfl) rfl (show _ + Int32.ofInt 6 = _ + 6 by congr 1) rfl ?_
      refine mg_goto C rfl ?_
      refine mg_sub (lv' := [(0, .ref 4000000), (1, .ref v1), (2, .ref v2), (3, .ref v3), (4, .int (v4 + 6))]) (by simp) ?_
      exact hk23 _ _ _ _ _ _ _ _ (by omega) (by omega) (by omega) (by omega) (by omega) (by omega) hf
    · refine mg_aload_n C rfl rfl ?_
      refine mg_iconst (v := 0) C rfl (by decide) ?_
      refine mh_aL C rfl hf (fun x9 hf => ?_)
      refine mg_iload C rfl rfl ?_
      refine mg_i2l C rfl ?_
      refine mg_lcmp C rfl ?_
      refine mh_if_eq C rfl hf (fun e_1194 hf => ?_) (fun e_1194 hf => ?_)
      · refine mg_goto C rfl ?_
        refine mg_iinc (lv' := [(0, .ref 4000000), (1, .ref v1), (2, .ref v2), (3, .ref v3), (4, .int (v4 + 6)), (5, .int r2), (6, .int r5)]) C rfl (Nat.le_of_ble_eq_true rfl) rfl (show _ + Int32.ofInt 6 = _ + 6 by congr 1) rfl ?_
        refine mg_goto C rfl ?_
        refine mg_sub (lv' := [(0, .ref 4000000), (1, .ref v1), (2, .ref v2), (3, .ref v3), (4, .int (v4 + 6))]) (by simp) ?_
        exact hk23 _ _ _ _ _ _ _ _ (by omega) (by omega) (by omega) (by omega) (by omega) (by omega) hf
      · refine mg_iconst (v := 0) C rfl (by decide) ?_
        exact mh_zreturn C rfl (by omega) (by omega) rfl hf
  · refine mg_iconst (v := 0) C rfl (by decide) ?_
    exact mh_zreturn C rfl (by omega) (by omega) rfl hf
def bL_law_1202 (N : Nat) (xs : Nat → Int32) (L : Nat)  (k23 : Nat → Nat → Nat → Int32 → mm_C → mR Int32) (v1 : Nat) (v2 : Nat) (v3 : Nat) (v4 : Int32) (c : mm_C) : mR Int32 :=
  Option.bind (sc xs L (v4 + (1 : Int32))) fun x1 => cS (fL_soonest N v1 x1 v3 c) fun r2 c3 => Option.bind (sc xs L (v4 + (1 : Int32))) fun x4 => cV 12 v2 c3 (fX12_soonest N v2 x4 c3) fun r5 c6 => cV 12 v2 c6 (fX12_thrown N v2 c6) fun r7 c8 => if r7 = r2 then (if ¬ r2 = 0 then (k23 v1 v2 v3 (v4 + 6) c8) else (Option.bind (aL c8 v3 (0 : Int32)) fun x9 => if (lg_cmp x9 r5.toInt64) = 0 then (k23 v1 v2 v3 (v4 + 6) c8) else (rZ (0 : Int32) c8))) else (rZ (0 : Int32) c8)
set_option maxRecDepth 100000 in
theorem wL_law_1202 {Z : mm_Z} {X : mm_T} {k w mc ms d n N : Nat} {Q : mm_O → mm_H → Prop} {xs : Nat → Int32} {L : Nat} (hX : scX Z X xs L) (hQ : ∀ o a b c, Q o (a, c) → Q o (b, c)) (C : mm_Ok Z qL_law X) (hRm : mt_R X = mm_rm d mc ms) (hd : 200 ≤ d) (hn : n + 4 < 1000000) (hk : k + 4 ≤ mc) (hw : w + 24 ≤ ms) {k23 : Nat → Nat → Nat → Int32 → mm_C → mR Int32} (hk23 : ∀ (v1 : Nat) (v2 : Nat) (v3 : Nat) (v4 : Int32) (c : mm_C) (k1 w1 n1 : Nat), k ≤ k1 → k1 ≤ k + 2 → w ≤ w1 → w1 ≤ w + 12 → n ≤ n1 → n1 ≤ n + 3 → hO 0 ovI n1 (k23 v1 v2 v3 v4 c) Q → mG Z qL_law X k1 w1 mc ms Q (23, [(0, .ref 4000000), (1, .ref v1), (2, .ref v2), (3, .ref v3), (4, .int v4)], [], (n1, c))) {v1 : Nat} {v2 : Nat} {v3 : Nat} {v4 : Int32} {c : mm_C} (hf : hO 0 ovI n (bL_law_1202 N xs L  k23 v1 v2 v3 v4 c) Q) : mG Z qL_law X k w mc ms Q (1202, [(0, .ref 4000000), (1, .ref v1), (2, .ref v2), (3, .ref v3), (4, .int v4)], [], (n, c)) := by
  unfold bL_law_1202 at hf
  refine mg_aload_n C rfl rfl ?_
  refine mg_aload_n C rfl rfl ?_
  refine mg_iload C rfl rfl ?_
  refine mg_iconst (v := 1) C rfl (by decide) ?_
  refine mg_iadd C rfl ?_
  refine mh_sc hX C rfl hf (fun x1 hf => ?_)
  refine mg_aload_n C rfl rfl ?_
  refine mu_cS (kc := 1) (tn := 1) (M' := qL_soonest) C rfl rfl awL_soonest tL_soonest hRm (by omega) (by decide) (by omega) (by omega) rfl rfl (Nat.le_of_ble_eq_true rfl) rfl hQ hf (fun hs => wL_soonest (by omega) (by omega) hs) (fun r2 c3 n hn1 hn2 hf => ?_)
  refine mg_istore (lv' := [(0, .ref 4000000), (1, .ref v1), (2, .ref v2), (3, .ref v3), (4, .int v4), (5, .int r2)]) C rfl (Nat.le_of_ble_eq_true rfl) rfl ?_
  refine mg_aload_n C rfl rfl ?_
  refine mg_aload_n C rfl rfl ?_
  refine mg_iload C rfl rfl ?_
  refine mg_iconst (v := 1) C rfl (by decide) ?_
  refine mg_iadd C rfl ?_
  refine mh_sc hX C rfl hf (fun x4 hf => ?_)
  refine mh_cVI (M' := qX12_soonest) C rfl rfl aX12_soonest iX12_soonest sX12_soonest hRm (by omega) (by decide) (by omega) (by omega) rfl rfl rfl (Nat.le_of_ble_eq_true rfl) rfl hf (fun hs => wX12_soonest (by omega) (by omega) hs) (fun r5 c6 hf => ?_)
  refine mg_istore (lv' := [(0, .ref 4000000), (1, .ref v1), (2, .ref v2), (3, .ref v3), (4, .int v4), (5, .int r2), (6, .int r5)]) C rfl (Nat.le_of_ble_eq_true rfl) rfl ?_
  refine mg_aload_n C rfl rfl ?_
  refine mh_cVI (M' := qX12_thrown) C rfl rfl aX12_thrown iX12_thrown sX12_thrown hRm (by omega) (by decide) (by omega) (by omega) rfl rfl rfl (Nat.le_of_ble_eq_true rfl) rfl hf (fun hs => wX12_thrown (by omega) (by omega) hs) (fun r7 c8 hf => ?_)
  refine mg_iload C rfl rfl ?_
  refine mh_icmp_eq C rfl hf (fun e_1233 hf => ?_) (fun e_1233 hf => ?_)
  · refine mg_iload C rfl rfl ?_
    refine mh_if_ne C rfl hf (fun e_1240 hf => ?_) (fun e_1240 hf => ?_)
    · refine mg_goto C rfl ?_
      refine mg_iinc (lv' := [(0, .ref 4000000), (1, .ref v1), (2, .ref v2), (3, .ref v3), (4, .int (v4 + 6)), (5, .int r2), (6, .int r5)]) C rfl (Nat.le_of_ble_eq_true rfl) rfl (show _ + Int32.ofInt 6 = _ + 6 by congr 1) rfl ?_
      refine mg_goto C rfl ?_
      refine mg_sub (lv' := [(0, .ref 4000000), (1, .ref v1), (2, .ref v2), (3, .ref v3), (4, .int (v4 + 6))]) (by simp) ?_
      exact hk23 _ _ _ _ _ _ _ _ (by omega) (by omega) (by omega) (by omega) (by omega) (by omega) hf
    · refine mg_aload_n C rfl rfl ?_
      refine mg_iconst (v := 0) C rfl (by decide) ?_
      refine mh_aL C rfl hf (fun x9 hf => ?_)
      refine mg_iload C rfl rfl ?_
      refine mg_i2l C rfl ?_
      refine mg_lcmp C rfl ?_
      refine mh_if_eq C rfl hf (fun e_1250 hf => ?_) (fun e_1250 hf => ?_)
      · refine mg_goto C rfl ?_
        refine mg_iinc (lv' := [(0, .ref 4000000), (1, .ref v1), (2, .ref v2), (3, .ref v3), (4, .int (v4 + 6)), (5, .int r2), (6, .int r5)]) C rfl (Nat.le_of_ble_eq_true rfl) rfl (show _ + Int32.ofInt 6 = _ + 6 by congr 1) rfl ?_
        refine mg_goto C rfl ?_
        refine mg_sub (lv' := [(0, .ref 4000000), (1, .ref v1), (2, .ref v2), (3, .ref v3), (4, .int (v4 + 6))]) (by simp) ?_
        exact hk23 _ _ _ _ _ _ _ _ (by omega) (by omega) (by omega) (by omega) (by omega) (by omega) hf
      · refine mg_iconst (v := 0) C rfl (by decide) ?_
        exact mh_zreturn C rfl (by omega) (by omega) rfl hf
  · refine mg_iconst (v := 0) C rfl (by decide) ?_
    exact mh_zreturn C rfl (by omega) (by omega) rfl hf
