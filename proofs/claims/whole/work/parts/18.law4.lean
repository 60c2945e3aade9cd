/- needs: 18.alaw -/
def bL_law_1779 (N : Nat) (xs : Nat → Int32) (L : Nat)  (k23 : Nat → Nat → Nat → Int32 → mm_C → mR Int32) (v1 : Nat) (v2 : Nat) (v3 : Nat) (v4 : Int32) (c : mm_C) : mR Int32 :=
  Option.bind (sc xs L (v4 + (1 : Int32))) fun x1 => Option.bind (sc xs L (v4 + (2 : Int32))) fun x2 => Option.bind (sc xs L (v4 + (3 : Int32))) fun x3 => Option.bind (sc xs L (v4 + (4 : Int32))) fun x4 => cS (fL_trial N v1 x1 x2 x3 x4 v3 c) fun r5 c6 => Option.bind (sc xs L (v4 + (1 : Int32))) fun x7 => Option.bind (sc xs L (v4 + (2 : Int32))) fun x8 => Option.bind (sc xs L (v4 + (3 : Int32))) fun x9 => Option.bind (sc xs L (v4 + (4 : Int32))) fun x10 => cV 12 v2 c6 (fX12_trial N v2 x7 x8 x9 x10 c6) fun r11 c12 => cV 12 v2 c12 (fX12_thrown N v2 c12) fun r13 c14 => if r13 = r5 then (if ¬ r5 = 0 then (k23 v1 v2 v3 (v4 + 6) c14) else (Option.bind (aL c14 v3 (0 : Int32)) fun x15 => if (lg_cmp x15 r11) = 0 then (k23 v1 v2 v3 (v4 + 6) c14) else (rZ (0 : Int32) c14))) else (rZ (0 : Int32) c14)
set_option maxRecDepth 100000 in
theorem wL_law_1779 {Z : mm_Z} {X : mm_T} {k w mc ms d n N : Nat} {Q : mm_O → mm_H → Prop} {xs : Nat → Int32} {L : Nat} (hX : scX Z X xs L) (hQ : ∀ o a b c, Q o (a, c) → Q o (b, c)) (C : mm_Ok Z qL_law X) (hRm : mt_R X = mm_rm d mc ms) (hd : 200 ≤ d) (hn : n + 4 < 1000000) (hk : k + 4 ≤ mc) (hw : w + 24 ≤ ms) {k23 : Nat → Nat → Nat → Int32 → mm_C → mR Int32} (hk23 : ∀ (v1 : Nat) (v2 : Nat) (v3 : Nat) (v4 : Int32) (c : mm_C) (k1 w1 n1 : Nat), k ≤ k1 → k1 ≤ k + 2 → w ≤ w1 → w1 ≤ w + 12 → n ≤ n1 → n1 ≤ n + 3 → hO 0 ovI n1 (k23 v1 v2 v3 v4 c) Q → mG Z qL_law X k1 w1 mc ms Q (23, [(0, .ref 4000000), (1, .ref v1), (2, .ref v2), (3, .ref v3), (4, .int v4)], [], (n1, c))) {v1 : Nat} {v2 : Nat} {v3 : Nat} {v4 : Int32} {c : mm_C} (hf : hO 0 ovI n (bL_law_1779 N xs L  k23 v1 v2 v3 v4 c) Q) : mG Z qL_law X k w mc ms Q (1779, [(0, .ref 4000000), (1, .ref v1), (2, .ref v2), (3, .ref v3), (4, .int v4)], [], (n, c)) := by
  unfold bL_law_1779 at hf
  refine mg_aload_n C rfl rfl ?_
  refine mg_aload_n C rfl rfl ?_
  refine mg_iload C rfl rfl ?_
  refine mg_iconst (v := 1) C rfl (by decide) ?_
  refine mg_iadd C rfl ?_
  refine mh_sc hX C rfl hf (fun x1 hf => ?_)
  refine mg_aload_n C rfl rfl ?_
  refine mg_iload C rfl rfl ?_
  refine mg_iconst (v := 2) C rfl (by decide) ?_
  refine mg_iadd C rfl ?_
  refine mh_sc hX C rfl hf (fun x2 hf => ?_)
  refine mg_aload_n C rfl rfl ?_
  refine mg_iload C rfl rfl ?_
  refine mg_iconst (v := 3) C rfl (by decide) ?_
  refine mg_iadd C rfl ?_
  refine mh_sc hX C rfl hf (fun x3 hf => ?_)
  refine mg_aload_n C rfl rfl ?_
  refine mg_iload C rfl rfl ?_
  refine mg_iconst (v := 4) C rfl (by decide) ?_
  refine mg_iadd C rfl ?_
  refine mh_sc hX C rfl hf (fun x4 hf => ?_)
  refine mg_aload_n C rfl rfl ?_
  refine mu_cS (kc := 1) (tn := 1) (M' := qL_trial) C rfl rfl awL_trial tL_trial hRm (by omega) (by decide) (by omega) (by omega) rfl rfl (Nat.le_of_ble_eq_true rfl) rfl hQ hf (fun hs => wL_trial (by omega) (by omega) hs) (fun r5 c6 n hn1 hn2 hf => ?_)
  refine mg_istore (lv' := [(0, .ref 4000000), (1, .ref v1), (2, .ref v2), (3, .ref v3), (4, .int v4), (5, .int r5)]) C rfl (Nat.le_of_ble_eq_true rfl) rfl ?_
  refine mg_aload_n C rfl rfl ?_
  refine mg_aload_n C rfl rfl ?_
  refine mg_iload C rfl rfl ?_
  refine mg_iconst (v := 1) C rfl (by decide) ?_
  refine mg_iadd C rfl ?_
  refine mh_sc hX C rfl hf (fun x7 hf => ?_)
  refine mg_aload_n C rfl rfl ?_
  refine mg_iload C rfl rfl ?_
  refine mg_iconst (v := 2) C rfl (by decide) ?_
  refine mg_iadd C rfl ?_
  refine mh_sc hX C rfl hf (fun x8 hf => ?_)
  refine mg_aload_n C rfl rfl ?_
  refine mg_iload C rfl rfl ?_
  refine mg_iconst (v := 3) C rfl (by decide) ?_
  refine mg_iadd C rfl ?_
  refine mh_sc hX C rfl hf (fun x9 hf => ?_)
  refine mg_aload_n C rfl rfl ?_
  refine mg_iload C rfl rfl ?_
  refine mg_iconst (v := 4) C rfl (by decide) ?_
  refine mg_iadd C rfl ?_
  refine mh_sc hX C rfl hf (fun x10 hf => ?_)
  refine mh_cVL (M' := qX12_trial) C rfl rfl aX12_trial iX12_trial sX12_trial hRm (by omega) (by decide) (by omega) (by omega) rfl rfl rfl (Nat.le_of_ble_eq_true rfl) rfl hf (fun hs => wX12_trial (by omega) (by omega) hs) (fun r11 c12 hf => ?_)
  refine mg_lstore (lv' := [(0, .ref 4000000), (1, .ref v1), (2, .ref v2), (3, .ref v3), (4, .int v4), (5, .int r5), (6, .long r11)]) C rfl (Nat.le_of_ble_eq_true rfl) rfl ?_
  refine mg_aload_n C rfl rfl ?_
  refine mh_cVI (M' := qX12_thrown) C rfl rfl aX12_thrown iX12_thrown sX12_thrown hRm (by omega) (by decide) (by omega) (by omega) rfl rfl rfl (Nat.le_of_ble_eq_true rfl) rfl hf (fun hs => wX12_thrown (by omega) (by omega) hs) (fun r13 c14 hf => ?_)
  refine mg_iload C rfl rfl ?_
  refine mh_icmp_eq C rfl hf (fun e_1846 hf => ?_) (fun e_1846 hf => ?_)
  · refine mg_iload C rfl rfl ?_
    refine mh_if_ne C rfl hf (fun e_1853 hf => ?_) (fun e_1853 hf => ?_)
    · refine mg_goto C rfl ?_
      refine mg_iinc (lv' := [(0, .ref 4000000), (1, .ref v1), (2, .ref v2), (3, .ref v3), (4, .int (v4 + 6)), (5, .int r5), (6, .long r11)]) C rfl (Nat.le_of_ble_eq_true rfl) rfl (show _ + Int32.ofInt 6 = _ + 6 by congr 1) rfl ?_
      refine mg_goto C rfl ?_
      refine mg_sub (lv' := [(0, .ref 4000000), (1, .ref v1), (2, .ref v2), (3, .ref v3), (4, .int (v4 + 6))]) (by simp) ?_
      exact hk23 _ _ _ _ _ _ _ _ (by omega) (by omega) (by omega) (by omega) (by omega) (by omega) hf
    · refine mg_aload_n C rfl rfl ?_
      refine mg_iconst (v := 0) C rfl (by decide) ?_
      refine mh_aL C rfl hf (fun x15 hf => ?_)
      refine mg_lload C rfl rfl ?_
      refine mg_lcmp C rfl ?_
      refine mh_if_eq C rfl hf (fun e_1862 hf => ?_) (fun e_1862 hf => ?_)
      · refine mg_goto C rfl ?_
        refine mg_iinc (lv' := [(0, .ref 4000000), (1, .ref v1), (2, .ref v2), (3, .ref v3), (4, .int (v4 + 6)), (5, .int r5), (6, .long r11)]) C rfl (Nat.le_of_ble_eq_true rfl) rfl (show _ + Int32.ofInt 6 = _ + 6 by congr 1) rfl ?_
        refine mg_goto C rfl ?_
        refine mg_sub (lv' := [(0, .ref 4000000), (1, .ref v1), (2, .ref v2), (3, .ref v3), (4, .int (v4 + 6))]) (by simp) ?_
        exact hk23 _ _ _ _ _ _ _ _ (by omega) (by omega) (by omega) (by omega) (by omega) (by omega) hf
      · refine mg_iconst (v := 0) C rfl (by decide) ?_
        exact mh_zreturn C rfl (by omega) (by omega) rfl hf
  · refine mg_iconst (v := 0) C rfl (by decide) ?_
    exact mh_zreturn C rfl (by omega) (by omega) rfl hf
def bL_law_1870 (N : Nat) (xs : Nat → Int32) (L : Nat)  (k23 : Nat → Nat → Nat → Int32 → mm_C → mR Int32) (v1 : Nat) (v2 : Nat) (v3 : Nat) (v4 : Int32) (c : mm_C) : mR Int32 :=
  Option.bind (sc xs L (v4 + (1 : Int32))) fun x1 => Option.bind (sc xs L (v4 + (2 : Int32))) fun x2 => Option.bind (sc xs L (v4 + (3 : Int32))) fun x3 => if x3 = 0 then (cS (fL_see N v1 x1 x2 (0 : Int32) v3 c) fun r4 c5 => Option.bind (sc xs L (v4 + (1 : Int32))) fun x6 => Option.bind (sc xs L (v4 + (2 : Int32))) fun x7 => Option.bind (sc xs L (v4 + (3 : Int32))) fun x8 => if x8 = 0 then (cV 12 v2 c5 (fX12_see N v2 x6 x7 (0 : Int32) c5) fun r9 c10 => cV 12 v2 c10 (fX12_thrown N v2 c10) fun r11 c12 => if r11 = r4 then (if ¬ r4 = 0 then (k23 v1 v2 v3 (v4 + 6) c12) else (Option.bind (aL c12 v3 (0 : Int32)) fun x13 => if (lg_cmp x13 r9.toInt64) = 0 then (k23 v1 v2 v3 (v4 + 6) c12) else (rZ (0 : Int32) c12))) else (rZ (0 : Int32) c12)) else (cV 12 v2 c5 (fX12_see N v2 x6 x7 (1 : Int32) c5) fun r14 c15 => cV 12 v2 c15 (fX12_thrown N v2 c15) fun r16 c17 => if r16 = r4 then (if ¬ r4 = 0 then (k23 v1 v2 v3 (v4 + 6) c17) else (Option.bind (aL c17 v3 (0 : Int32)) fun x18 => if (lg_cmp x18 r14.toInt64) = 0 then (k23 v1 v2 v3 (v4 + 6) c17) else (rZ (0 : Int32) c17))) else (rZ (0 : Int32) c17))) else (cS (fL_see N v1 x1 x2 (1 : Int32) v3 c) fun r19 c20 => Option.bind (sc xs L (v4 + (1 : Int32))) fun x21 => Option.bind (sc xs L (v4 + (2 : Int32))) fun x22 => Option.bind (sc xs L (v4 + (3 : Int32))) fun x23 => if x23 = 0 then (cV 12 v2 c20 (fX12_see N v2 x21 x22 (0 : Int32) c20) fun r24 c25 => cV 12 v2 c25 (fX12_thrown N v2 c25) fun r26 c27 => if r26 = r19 then (if ¬ r19 = 0 then (k23 v1 v2 v3 (v4 + 6) c27) else (Option.bind (aL c27 v3 (0 : Int32)) fun x28 => if (lg_cmp x28 r24.toInt64) = 0 then (k23 v1 v2 v3 (v4 + 6) c27) else (rZ (0 : Int32) c27))) else (rZ (0 : Int32) c27)) else (cV 12 v2 c20 (fX12_see N v2 x21 x22 (1 : Int32) c20) fun r29 c30 => cV 12 v2 c30 (fX12_thrown N v2 c30) fun r31 c32 => if r31 = r19 then (if ¬ r19 = 0 then (k23 v1 v2 v3 (v4 + 6) c32) else (Option.bind (aL c32 v3 (0 : Int32)) fun x33 => if (lg_cmp x33 r29.toInt64) = 0 then (k23 v1 v2 v3 (v4 + 6) c32) else (rZ (0 : Int32) c32))) else (rZ (0 : Int32) c32)))
set_option maxRecDepth 100000 in
theorem wL_law_1870 {Z : mm_Z} {X : mm_T} {k w mc ms d n N : Nat} {Q : mm_O → mm_H → Prop} {xs : Nat → Int32} {L : Nat} (hX : scX Z X xs L) (hQ : ∀ o a b c, Q o (a, c) → Q o (b, c)) (C : mm_Ok Z qL_law X) (hRm : mt_R X = mm_rm d mc ms) (hd : 200 ≤ d) (hn : n + 4 < 1000000) (hk : k + 4 ≤ mc) (hw : w + 24 ≤ ms) {k23 : Nat → Nat → Nat → Int32 → mm_C → mR Int32} (hk23 : ∀ (v1 : Nat) (v2 : Nat) (v3 : Nat) (v4 : Int32) (c : mm_C) (k1 w1 n1 : Nat), k ≤ k1 → k1 ≤ k + 2 → w ≤ w1 → w1 ≤ w + 12 → n ≤ n1 → n1 ≤ n + 3 → hO 0 ovI n1 (k23 v1 v2 v3 v4 c) Q → mG Z qL_law X k1 w1 mc ms Q (23, [(0, .ref 4000000), (1, .ref v1), (2, .ref v2), (3, .ref v3), (4, .int v4)], [], (n1, c))) {v1 : Nat} {v2 : Nat} {v3 : Nat} {v4 : Int32} {c : mm_C} (hf : hO 0 ovI n (bL_law_1870 N xs L  k23 v1 v2 v3 v4 c) Q) : mG Z qL_law X k w mc ms Q (1870, [(0, .ref 4000000), (1, .ref v1), (2, .ref v2), (3, .ref v3), (4, .int v4)], [], (n, c)) := by
  unfold bL_law_1870 at hf
  refine mg_aload_n C rfl rfl ?_
  refine mg_aload_n C rfl rfl ?_
  refine mg_iload C rfl rfl ?_
  refine mg_iconst (v := 1) C rfl (by decide) ?_
  refine mg_iadd C rfl ?_
  refine mh_sc hX C rfl hf (fun x1 hf => ?_)
  refine mg_aload_n C rfl rfl ?_
  refine mg_iload C rfl rfl ?_
  refine mg_iconst (v := 2) C rfl (by decide) ?_
  refine mg_iadd C rfl ?_
  refine mh_sc hX C rfl hf (fun x2 hf => ?_)
  refine mg_aload_n C rfl rfl ?_
  refine mg_iload C rfl rfl ?_
  refine mg_iconst (v := 3) C rfl (by decide) ?_
  refine mg_iadd C rfl ?_
  refine mh_sc hX C rfl hf (fun x3 hf => ?_)
  refine mh_if_eq C rfl hf (fun e_1889 hf => ?_) (fun e_1889 hf => ?_)
  · refine mg_iconst (v := 0) C rfl (by decide) ?_
    refine mg_aload_n C rfl rfl ?_
    refine mu_cS (kc := 1) (tn := 1) (M' := qL_see) C rfl rfl awL_see tL_see hRm (by omega) (by decide) (by omega) (by omega) rfl rfl (Nat.le_of_ble_eq_true rfl) rfl hQ hf (fun hs => wL_see (by omega) (by omega) hs) (fun r4 c5 n hn1 hn2 hf => ?_)
    refine mg_istore (lv' := [(0, .ref 4000000), (1, .ref v1), (2, .ref v2), (3, .ref v3), (4, .int v4), (5, .int r4)]) C rfl (Nat.le_of_ble_eq_true rfl) rfl ?_
    refine mg_aload_n C rfl rfl ?_
    refine mg_aload_n C rfl rfl ?_
    refine mg_iload C rfl rfl ?_
    refine mg_iconst (v := 1) C rfl (by decide) ?_
    refine mg_iadd C rfl ?_
    refine mh_sc hX C rfl hf (fun x6 hf => ?_)
    refine mg_aload_n C rfl rfl ?_
    refine mg_iload C rfl rfl ?_
    refine mg_iconst (v := 2) C rfl (by decide) ?_
    refine mg_iadd C rfl ?_
    refine mh_sc hX C rfl hf (fun x7 hf => ?_)
    refine mg_aload_n C rfl rfl ?_
    refine mg_iload C rfl rfl ?_
    refine mg_iconst (v := 3) C rfl (by decide) ?_
    refine mg_iadd C rfl ?_
    refine mh_sc hX C rfl hf (fun x8 hf => ?_)
    refine mh_if_eq C rfl hf (fun e_1922 hf => ?_) (fun e_1922 hf => ?_)
    · refine mg_iconst (v := 0) C rfl (by decide) ?_
      refine mh_cVI (M' := qX12_see) C rfl rfl aX12_see iX12_see sX12_see hRm (by omega) (by decide) (by omega) (by omega) rfl rfl rfl (Nat.le_of_ble_eq_true rfl) rfl hf (fun hs => wX12_see (by omega) (by omega) hs) (fun r9 c10 hf => ?_)
      refine mg_istore (lv' := [(0, .ref 4000000), (1, .ref v1), (2, .ref v2), (3, .ref v3), (4, .int v4), (5, .int r4), (6, .int r9)]) C rfl (Nat.le_of_ble_eq_true rfl) rfl ?_
      refine mg_aload_n C rfl rfl ?_
      refine mh_cVI (M' := qX12_thrown) C rfl rfl aX12_thrown iX12_thrown sX12_thrown hRm (by omega) (by decide) (by omega) (by omega) rfl rfl rfl (Nat.le_of_ble_eq_true rfl) rfl hf (fun hs => wX12_thrown (by omega) (by omega) hs) (fun r11 c12 hf => ?_)
      refine mg_iload C rfl rfl ?_
      refine mh_icmp_eq C rfl hf (fun e_1941 hf => ?_) (fun e_1941 hf => ?_)
      · refine mg_iload C rfl rfl ?_
        refine mh_if_ne C rfl hf (fun e_1948 hf => ?_) (fun e_1948 hf => ?_)
        · refine mg_goto C rfl ?_
          refine mg_iinc (lv' := [(0, .ref 4000000), (1, .ref v1), (2, .ref v2), (3, .ref v3), (4, .int (v4 + 6)), (5, .int r4), (6, .int r9)]) C rfl (Nat.le_of_ble_eq_true rfl) rfl (show _ + Int32.ofInt 6 = _ + 6 by congr 1) rfl ?_
          refine mg_goto C rfl ?_
          refine mg_sub (lv' := [(0, .ref 4000000), (1, .ref v1), (2, .ref v2), (3, .ref v3), (4, .int (v4 + 6))]) (by simp) ?_
          exact hk23 _ _ _ _ _ _ _ _ (by omega) (by omega) (by omega) (by omega) (by omega) (by omega) hf
        · refine mg_aload_n C rfl rfl ?_
          refine mg_iconst (v := 0) C rfl (by decide) ?_
          refine mh_aL C rfl hf (fun x13 hf => ?_)
          refine mg_iload C rfl rfl ?_
          refine mg_i2l C rfl ?_
          refine mg_lcmp C rfl ?_
          refine mh_if_eq C rfl hf (fun e_1958 hf => ?_) (fun e_1958 hf => ?_)
          · refine mg_goto C rfl ?_
            refine mg_iinc (lv' := [(0, .ref 4000000), (1, .ref v1), (2, .ref v2), (3, .ref v3), (4, .int (v4 + 6)), (5, .int r4), (6, .int r9)]) C rfl (Nat.le_of_ble_eq_true rfl) rfl (show _ + Int32.ofInt 6 = _ + 6 by congr 1) rfl ?_
            refine mg_goto C rfl ?_
            refine mg_sub (lv' := [(0, .ref 4000000), (1, .ref v1), (2, .ref v2), (3, .ref v3), (4, .int (v4 + 6))]) (by simp) ?_
            exact hk23 _ _ _ _ _ _ _ _ (by omega) (by omega) (by omega) (by omega) (by omega) (by omega) hf
          · refine mg_iconst (v := 0) C rfl (by decide) ?_
            exact mh_zreturn C rfl (by omega) (by omega) rfl hf
      · refine mg_iconst (v := 0) C rfl (by decide) ?_
        exact mh_zreturn C rfl (by omega) (by omega) rfl hf
    · refine mg_iconst (v := 1) C rfl (by decide) ?_
      refine mg_goto C rfl ?_
      refine mh_cVI (M' := qX12_see) C rfl rfl aX12_see iX12_see sX12_see hRm (by omega) (by decide) (by omega) (by omega) rfl rfl rfl (Nat.le_of_ble_eq_true rfl) rfl hf (fun hs => wX12_see (by omega) (by omega) hs) (fun r14 c15 hf => ?_)
      refine mg_istore (lv' := [(0, .ref 4000000), (1, .ref v1), (2, .ref v2), (3, .ref v3), (4, .int v4), (5, .int r4), (6, .int r14)]) C rfl (Nat.le_of_ble_eq_true rfl) rfl ?_
      refine mg_aload_n C rfl rfl ?_
      refine mh_cVI (M' := qX12_thrown) C rfl rfl aX12_thrown iX12_thrown sX12_thrown hRm (by omega) (by decide) (by omega) (by omega) rfl rfl rfl (Nat.le_of_ble_eq_true rfl) rfl hf (fun hs => wX12_thrown (by omega) (by omega) hs) (fun r16 c17 hf => ?_)
      refine mg_iload C rfl rfl ?_
      refine mh_icmp_eq C rfl hf (fun e_1941 hf => ?_) (fun e_1941 hf => ?_)
      · refine mg_iload C rfl rfl ?_
        refine mh_if_ne C rfl hf (fun e_1948 hf => ?_) (fun e_1948 hf => ?_)
        · refine mg_goto C rfl ?_
          refine mg_iinc (lv' := [(0, .ref 4000000), (1, .ref v1), (2, .ref v2), (3, .ref v3), (4, .int (v4 + 6)), (5, .int r4), (6, .int r14)]) C rfl (Nat.le_of_ble_eq_true rfl) rfl (show _ + Int32.ofInt 6 = _ + 6 by congr 1) rfl ?_
          refine mg_goto C rfl ?_
          refine mg_sub (lv' := [(0, .ref 4000000), (1, .ref v1), (2, .ref v2), (3, .ref v3), (4, .int (v4 + 6))]) (by simp) ?_
          exact hk23 _ _ _ _ _ _ _ _ (by omega) (by omega) (by omega) (by omega) (by omega) (by omega) hf
        · refine mg_aload_n C rfl rfl ?_
          refine mg_iconst (v := 0) C rfl (by decide) ?_
          refine mh_aL C rfl hf (fun x18 hf => ?_)
          refine mg_iload C rfl rfl ?_
          refine mg_i2l C rfl ?_
          refine mg_lcmp C rfl ?_
          refine mh_if_eq C rfl hf (fun e_1958 hf => ?_) (fun e_1958 hf => ?_)
          · refine mg_goto C rfl ?_
            refine mg_iinc (lv' := [(0, .ref 4000000), (1, .ref v1), (2, .ref v2), (3, .ref v3), (4, .int (v4 + 6)), (5, .int r4), (6, .int r14)]) C rfl (Nat.le_of_ble_eq_true rfl) rfl (show _ + Int32.ofInt 6 = _ + 6 by congr 1) rfl ?_
            refine mg_goto C rfl ?_
            refine mg_sub (lv' := [(0, .ref 4000000), (1, .ref v1), (2, .ref v2), (3, .ref v3), (4, .int (v4 + 6))]) (by simp) ?_
            exact hk23 _ _ _ _ _ _ _ _ (by omega) (by omega) (by omega) (by omega) (by omega) (by omega) hf
          · refine mg_iconst (v := 0) C rfl (by decide) ?_
            exact mh_zreturn C rfl (by omega) (by omega) rfl hf
      · refine mg_iconst (v := 0) C rfl (by decide) ?_
        exact mh_zreturn C rfl (by omega) (by omega) rfl hf
  · refine mg_iconst (v := 1) C rfl (by decide) ?_
    refine mg_goto C rfl ?_
    refine mg_aload_n C rfl rfl ?_
    refine mu_cS (kc := 1) (tn := 1) (M' := qL_see) C rfl rfl awL_see tL_see hRm (by omega) (by decide) (by omega) (by omega) rfl rfl (Nat.le_of_ble_eq_true rfl) rfl hQ hf (fun hs => wL_see (by omega) (by omega) hs) (fun r19 c20 n hn1 hn2 hf => ?_)
    refine mg_istore (lv' := [(0, .ref 4000000), (1, .ref v1), (2, .ref v2), (3, .ref v3), (4, .int v4), (5, .int r19)]) C rfl (Nat.le_of_ble_eq_true rfl) rfl ?_
    refine mg_aload_n C rfl rfl ?_
    refine mg_aload_n C rfl rfl ?_
    refine mg_iload C rfl rfl ?_
    refine mg_iconst (v := 1) C rfl (by decide) ?_
    refine mg_iadd C rfl ?_
    refine mh_sc hX C rfl hf (fun x21 hf => ?_)
    refine mg_aload_n C rfl rfl ?_
    refine mg_iload C rfl rfl ?_
    refine mg_iconst (v := 2) C rfl (by decide) ?_
    refine mg_iadd C rfl ?_
    refine mh_sc hX C rfl hf (fun x22 hf => ?_)
    refine mg_aload_n C rfl rfl ?_
    refine mg_iload C rfl rfl ?_
    refine mg_iconst (v := 3) C rfl (by decide) ?_
    refine mg_iadd C rfl ?_
    refine mh_sc hX C rfl hf (fun x23 hf => ?_)
    refine mh_if_eq C rfl hf (fun e_1922 hf => ?_) (fun e_1922 hf => ?_)
    · refine mg_iconst (v := 0) C rfl (by decide) ?_
      refine mh_cVI (M' := qX12_see) C rfl rfl aX12_see iX12_see sX12_see hRm (by omega) (by decide) (by omega) (by omega) rfl rfl rfl (Nat.le_of_ble_eq_true rfl) rfl hf (fun hs => wX12_see (by omega) (by omega) hs) (fun r24 c25 hf => ?_)
      refine mg_istore (lv' := [(0, .ref 4000000), (1, .ref v1), (2, .ref v2), (3, .ref v3), (4, .int v4), (5, .int r19), (6, .int r24)]) C rfl (Nat.le_of_ble_eq_true rfl) rfl ?_
      refine mg_aload_n C rfl rfl ?_
      refine mh_cVI (M' := qX12_thrown) C rfl rfl aX12_thrown iX12_thrown sX12_thrown hRm (by omega) (by decide) (by omega) (by omega) rfl rfl rfl (Nat.le_of_ble_eq_true rfl) rfl hf (fun hs => wX12_thrown (by omega) (by omega) hs) (fun r26 c27 hf => ?_)
      refine mg_iload C rfl rfl ?_
      refine mh_icmp_eq C rfl hf (fun e_1941 hf => ?_) (fun e_1941 hf => ?_)
      · refine mg_iload C rfl rfl ?_
        refine mh_if_ne C rfl hf (fun e_1948 hf => ?_) (fun e_1948 hf => ?_)
        · refine mg_goto C rfl ?_
          refine mg_iinc (lv' := [(0, .ref 4000000), (1, .ref v1), (2, .ref v2), (3, .ref v3), (4, .int (v4 + 6)), (5, .int r19), (6, .int r24)]) C rfl (Nat.le_of_ble_eq_true rfl) rfl (show _ + Int32.ofInt 6 = _ + 6 by congr 1) rfl ?_
          refine mg_goto C rfl ?_
          refine mg_sub (lv' := [(0, .ref 4000000), (1, .ref v1), (2, .ref v2), (3, .ref v3), (4, .int (v4 + 6))]) (by simp) ?_
          exact hk23 _ _ _ _ _ _ _ _ (by omega) (by omega) (by omega) (by omega) (by omega) (by omega) hf
        · refine mg_aload_n C rfl rfl ?_
          refine mg_iconst (v := 0) C rfl (by decide) ?_
          refine mh_aL C rfl hf (fun x28 hf => ?_)
          refine mg_iload C rfl rfl ?_
          refine mg_i2l C rfl ?_
          refine mg_lcmp C rfl ?_
          refine mh_if_eq C rfl hf (fun e_1958 hf => ?_) (fun e_1958 hf => ?_)
          · refine mg_goto C rfl ?_
            refine mg_iinc (lv' := [(0, .ref 4000000), (1, .ref v1), (2, .ref v2), (3, .ref v3), (4, .int (v4 + 6)), (5, .int r19), (6, .int r24)]) C rfl (Nat.le_of_ble_eq_true rfl) rfl (show _ + Int32.ofInt 6 = _ + 6 by congr 1) rfl ?_
            refine mg_goto C rfl ?_
            refine mg_sub (lv' := [(0, .ref 4000000), (1, .ref v1), (2, .ref v2), (3, .ref v3), (4, .int (v4 + 6))]) (by simp) ?_
            exact hk23 _ _ _ _ _ _ _ _ (by omega) (by omega) (by omega) (by omega) (by omega) (by omega) hf
          · refine mg_iconst (v := 0) C rfl (by decide) ?_
            exact mh_zreturn C rfl (by omega) (by omega) rfl hf
      · refine mg_iconst (v := 0) C rfl (by decide) ?_
        exact mh_zreturn C rfl (by omega) (by omega) rfl hf
    · refine mg_iconst (v := 1) C rfl (by decide) ?_
      refine mg_goto C rfl ?_
      refine mh_cVI (M' := qX12_see) C rfl rfl aX12_see iX12_see sX12_see hRm (by omega) (by decide) (by omega) (by omega) rfl rfl rfl (Nat.le_of_ble_eq_true rfl) rfl hf (fun hs => wX12_see (by omega) (by omega) hs) (fun r29 c30 hf => ?_)
      refine mg_istore (lv' := [(0, .ref 4000000), (1, .ref v1), (2, .ref v2), (3, .ref v3), (4, .int v4), (5, .int r19), (6, .int r29)]) C rfl (Nat.le_of_ble_eq_true rfl) rfl ?_
      refine mg_aload_n C rfl rfl ?_
      refine mh_cVI (M' := qX12_thrown) C rfl rfl aX12_thrown iX12_thrown sX12_thrown hRm (by omega) (by decide) (by omega) (by omega) rfl rfl rfl (Nat.le_of_ble_eq_true rfl) rfl hf (fun hs => wX12_thrown (by omega) (by omega) hs) (fun r31 c32 hf => ?_)
      refine mg_iload C rfl rfl ?_
      refine mh_icmp_eq C rfl hf (fun e_1941 hf => ?_) (fun e_1941 hf => ?_)
      · refine mg_iload C rfl rfl ?_
        refine mh_if_ne C rfl hf (fun e_1948 hf => ?_) (fun e_1948 hf => ?_)
        · refine mg_goto C rfl ?_
          refine mg_iinc (lv' := [(0, .ref 4000000), (1, .ref v1), (2, .ref v2), (3, .ref v3), (4, .int (v4 + 6)), (5, .int r19), (6, .int r29)]) C rfl (Nat.le_of_ble_eq_true rfl) rfl (show _ + Int32.ofInt 6 = _ + 6 by congr 1) rfl ?_
          refine mg_goto C rfl ?_
          refine mg_sub (lv' := [(0, .ref 4000000), (1, .ref v1), (2, .ref v2), (3, .ref v3), (4, .int (v4 + 6))]) (by simp) ?_
          exact hk23 _ _ _ _ _ _ _ _ (by omega) (by omega) (by omega) (by omega) (by omega) (by omega) hf
        · refine mg_aload_n C rfl rfl ?_
          refine mg_iconst (v := 0) C rfl (by decide) ?_
          refine mh_aL C rfl hf (fun x33 hf => ?_)
          refine mg_iload C rfl rfl ?_
          refine mg_i2l C rfl ?_
          refine mg_lcmp C rfl ?_
          refine mh_if_eq C rfl hf (fun e_1958 hf => ?_) (fun e_1958 hf => ?_)
          · refine mg_goto C rfl ?_
            refine mg_iinc (lv' := [(0, .ref 4000000), (1, .ref v1), (2, .ref v2), (3, .ref v3), (4, .int (v4 + 6)), (5, .int r19), (6, .int r29)]) C rfl (Nat.le_of_ble_eq_true rfl) rfl (show _ + Int32.ofInt 6 = _ + 6 by congr 1) rfl ?_
            refine mg_goto C rfl ?_
            refine mg_sub (lv' := [(0, .ref 4000000), (1, .ref v1), (2, .ref v2), (3, .ref v3), (4, .int (v4 + 6))]) (by simp) ?_
            exact hk23 _ _ _ _ _ _ _ _ (by omega) (by omega) (by omega) (by omega) (by omega) (by omega) hf
          · refine mg_iconst (v := 0) C rfl (by decide) ?_
            exact mh_zreturn C rfl (by omega) (by omega) rfl hf
      · refine mg_iconst (v := 0) C rfl (by decide) ?_
        exact mh_zreturn C rfl (by omega) (by omega) rfl hf
def bL_law_1966 (N : Nat) (xs : Nat → Int32) (L : Nat)  (k23 : Nat → Nat → Nat → Int32 → mm_C → mR Int32) (v1 : Nat) (v2 : Nat) (v3 : Nat) (v4 : Int32) (c : mm_C) : mR Int32 :=
  cV 11 v1 c (fX11_which N v1 c) fun r1 c2 => cV 12 v2 c2 (fX12_which N v2 c2) fun r3 c4 => if r1 = r3 then (k23 v1 v2 v3 (v4 + 6) c4) else (rZ (0 : Int32) c4)
set_option maxRecDepth 100000 in
theorem wL_law_1966 {Z : mm_Z} {X : mm_T} {k w mc ms d n N : Nat} {Q : mm_O → mm_H → Prop} {xs : Nat → Int32} {L : Nat} (hX : scX Z X xs L) (hQ : ∀ o a b c, Q o (a, c) → Q o (b, c)) (C : mm_Ok Z qL_law X) (hRm : mt_R X = mm_rm d mc ms) (hd : 200 ≤ d) (hn : n + 4 < 1000000) (hk : k + 4 ≤ mc) (hw : w + 24 ≤ ms) {k23 : Nat → Nat → Nat → Int32 → mm_C → mR Int32} (hk23 : ∀ (v1 : Nat) (v2 : Nat) (v3 : Nat) (v4 : Int32) (c : mm_C) (k1 w1 n1 : Nat), k ≤ k1 → k1 ≤ k + 2 → w ≤ w1 → w1 ≤ w + 12 → n ≤ n1 → n1 ≤ n + 3 → hO 0 ovI n1 (k23 v1 v2 v3 v4 c) Q → mG Z qL_law X k1 w1 mc ms Q (23, [(0, .ref 4000000), (1, .ref v1), (2, .ref v2), (3, .ref v3), (4, .int v4)], [], (n1, c))) {v1 : Nat} {v2 : Nat} {v3 : Nat} {v4 : Int32} {c : mm_C} (hf : hO 0 ovI n (bL_law_1966 N xs L  k23 v1 v2 v3 v4 c) Q) : mG Z qL_law X k w mc ms Q (1966, [(0, .ref 4000000), (1, .ref v1), (2, .ref v2), (3, .ref v3), (4, .int v4)], [], (n, c)) := by
  unfold bL_law_1966 at hf
  refine mg_aload_n C rfl rfl ?_
  refine mh_cVI (M' := qX11_which) C rfl rfl aX11_which iX11_which sX11_which hRm (by omega) (by decide) (by omega) (by omega) rfl rfl rfl (Nat.le_of_ble_eq_true rfl) rfl hf (fun hs => wX11_which (by omega) (by omega) hs) (fun r1 c2 hf => ?_)
  refine mg_aload_n C rfl rfl ?_
  refine mh_cVI (M' := qX12_which) C rfl rfl aX12_which iX12_which sX12_which hRm (by omega) (by decide) (by omega) (by omega) rfl rfl rfl (Nat.le_of_ble_eq_true rfl) rfl hf (fun hs => wX12_which (by omega) (by omega) hs) (fun r3 c4 hf => ?_)
  refine mh_icmp_eq C rfl hf (fun e_1974 hf => ?_) (fun e_1974 hf => ?_)
  · refine mg_iinc (lv' := [(0, .ref 4000000), (1, .ref v1), (2, .ref v2), (3, .ref v3), (4, .int (v4 + 6))]) C rfl (Nat.le_of_ble_eq_true rfl) rfl (show _ + Int32.ofInt 6 = _ + 6 by congr 1) rfl ?_
    refine mg_goto C rfl ?_
    exact hk23 _ _ _ _ _ _ _ _ (by omega) (by omega) (by omega) (by omega) (by omega) (by omega) hf
  · refine mg_iconst (v := 0) C rfl (by decide) ?_
    exact mh_zreturn C rfl (by omega) (by omega) rfl hf
def bL_law_1979 (N : Nat) (xs : Nat → Int32) (L : Nat)  (k23 : Nat → Nat → Nat → Int32 → mm_C → mR Int32) (v1 : Nat) (v2 : Nat) (v3 : Nat) (v4 : Int32) (c : mm_C) : mR Int32 :=
  cV 11 v1 c (fX11_forget N v1 c) fun (_ : Unit) c1 => cV 12 v2 c1 (fX12_forget N v2 c1) fun (_ : Unit) c2 => k23 v1 v2 v3 (v4 + 6) c2
set_option maxRecDepth 100000 in
theorem wL_law_1979 {Z : mm_Z} {X : mm_T} {k w mc ms d n N : Nat} {Q : mm_O → mm_H → Prop} {xs : Nat → Int32} {L : Nat} (hX : scX Z X xs L) (hQ : ∀ o a b c, Q o (a, c) → Q o (b, c)) (C : mm_Ok Z qL_law X) (hRm : mt_R X = mm_rm d mc ms) (hd : 200 ≤ d) (hn : n + 4 < 1000000) (hk : k + 4 ≤ mc) (hw : w + 24 ≤ ms) {k23 : Nat → Nat → Nat → Int32 → mm_C → mR Int32} (hk23 : ∀ (v1 : Nat) (v2 : Nat) (v3 : Nat) (v4 : Int32) (c : mm_C) (k1 w1 n1 : Nat), k ≤ k1 → k1 ≤ k + 2 → w ≤ w1 → w1 ≤ w + 12 → n ≤ n1 → n1 ≤ n + 3 → hO 0 ovI n1 (k23 v1 v2 v3 v4 c) Q → mG Z qL_law X k1 w1 mc ms Q (23, [(0, .ref 4000000), (1, .ref v1), (2, .ref v2), (3, .ref v3), (4, .int v4)], [], (n1, c))) {v1 : Nat} {v2 : Nat} {v3 : Nat} {v4 : Int32} {c : mm_C} (hf : hO 0 ovI n (bL_law_1979 N xs L  k23 v1 v2 v3 v4 c) Q) : mG Z qL_law X k w mc ms Q (1979, [(0, .ref 4000000), (1, .ref v1), (2, .ref v2), (3, .ref v3), (4, .int v4)], [], (n, c)) := by
  unfold bL_law_1979 at hf
  refine mg_aload_n C rfl rfl ?_
  refine mh_cVU (M' := qX11_forget) C rfl rfl aX11_forget iX11_forget sX11_forget hRm (by omega) (by decide) (by omega) (by omega) rfl rfl rfl (Nat.le_of_ble_eq_true rfl) rfl hf (fun hs => wX11_forget (by omega) (by omega) hs) (fun c1 hf => ?_)
  refine mg_aload_n C rfl rfl ?_
  refine mh_cVU (M' := qX12_forget) C rfl rfl aX12_forget iX12_forget sX12_forget hRm (by omega) (by decide) (by omega) (by omega) rfl rfl rfl (Nat.le_of_ble_eq_true rfl) rfl hf (fun hs => wX12_forget (by omega) (by omega) hs) (fun c2 hf => ?_)
  refine mg_goto C rfl ?_
  refine mg_iinc (lv' := [(0, .ref 4000000), (1, .ref v1), (2, .ref v2), (3, .ref v3), (4, .int (v4 + 6))]) C rfl (Nat.le_of_ble_eq_true rfl) rfl (show _ + Int32.ofInt 6 = _ + 6 by congr 1) rfl ?_
  refine mg_goto C rfl ?_
  exact hk23 _ _ _ _ _ _ _ _ (by omega) (by omega) (by omega) (by omega) (by omega) (by omega) hf
def bL_law_1990 (N : Nat) (xs : Nat → Int32) (L : Nat)  (k23 : Nat → Nat → Nat → Int32 → mm_C → mR Int32) (v1 : Nat) (v2 : Nat) (v3 : Nat) (v4 : Int32) (c : mm_C) : mR Int32 :=
  Option.bind (sc xs L (v4 + (1 : Int32))) fun x1 => Option.bind (sc xs L (v4 + (2 : Int32))) fun x2 => Option.bind (sc xs L (v4 + (3 : Int32))) fun x3 => Option.bind (sc xs L (v4 + (4 : Int32))) fun x4 => cS (fL_week N v1 x1 x2 x3 x4 v3 c) fun r5 c6 => Option.bind (sc xs L (v4 + (1 : Int32))) fun x7 => Option.bind (sc xs L (v4 + (2 : Int32))) fun x8 => Option.bind (sc xs L (v4 + (3 : Int32))) fun x9 => Option.bind (sc xs L (v4 + (4 : Int32))) fun x10 => cV 12 v2 c6 (fX12_week N v2 x7 x8 x9 x10 c6) fun r11 c12 => cV 12 v2 c12 (fX12_thrown N v2 c12) fun r13 c14 => if r13 = r5 then (if ¬ r5 = 0 then (k23 v1 v2 v3 (v4 + 6) c14) else (Option.bind (aL c14 v3 (0 : Int32)) fun x15 => if (lg_cmp x15 r11.toInt64) = 0 then (k23 v1 v2 v3 (v4 + 6) c14) else (rZ (0 : Int32) c14))) else (rZ (0 : Int32) c14)
set_option maxRecDepth 100000 in
theorem wL_law_1990 {Z : mm_Z} {X : mm_T} {k w mc ms d n N : Nat} {Q : mm_O → mm_H → Prop} {xs : Nat → Int32} {L : Nat} (hX : scX Z X xs L) (hQ : ∀ o a b c, Q o (a, c) → Q o (b, c)) (C : mm_Ok Z qL_law X) (hRm : mt_R X = mm_rm d mc ms) (hd : 200 ≤ d) (hn : n + 4 < 1000000) (hk : k + 4 ≤ mc) (hw : w + 24 ≤ ms) {k23 : Nat → Nat → Nat → Int32 → mm_C → mR Int32} (hk23 : ∀ (v1 : Nat) (v2 : Nat) (v3 : Nat) (v4 : Int32) (c : mm_C) (k1 w1 n1 : Nat), k ≤ k1 → k1 ≤ k + 2 → w ≤ w1 → w1 ≤ w + 12 → n ≤ n1 → n1 ≤ n + 3 → hO 0 ovI n1 (k23 v1 v2 v3 v4 c) Q → mG Z qL_law X k1 w1 mc ms Q (23, [(0, .ref 4000000), (1, .ref v1), (2, .ref v2), (3, .ref v3), (4, .int v4)], [], (n1, c))) {v1 : Nat} {v2 : Nat} {v3 : Nat} {v4 : Int32} {c : mm_C} (hf : hO 0 ovI n (bL_law_1990 N xs L  k23 v1 v2 v3 v4 c) Q) : mG Z qL_law X k w mc ms Q (1990, [(0, .ref 4000000), (1, .ref v1), (2, .ref v2), (3, .ref v3), (4, .int v4)], [], (n, c)) := by
  unfold bL_law_1990 at hf
  refine mg_aload_n C rfl rfl ?_
  refine mg_aload_n C rfl rfl ?_
  refine mg_iload C rfl rfl ?_
  refine mg_iconst (v := 1) C rfl (by decide) ?_
  refine mg_iadd C rfl ?_
  refine mh_sc hX C rfl hf (fun x1 hf => ?_)
  refine mg_aload_n C rfl rfl ?_
  refine mg_iload C rfl rfl ?_
  refine mg_iconst (v := 2) C rfl (by decide) ?_
  refine mg_iadd C rfl ?_
  refine mh_sc hX C rfl hf (fun x2 hf => ?_)
  refine mg_aload_n C rfl rfl ?_
  refine mg_iload C rfl rfl ?_
  refine mg_iconst (v := 3) C rfl (by decide) ?_
  refine mg_iadd C rfl ?_
  refine mh_sc hX C rfl hf (fun x3 hf => ?_)
  refine mg_aload_n C rfl rfl ?_
  refine mg_iload C rfl rfl ?_
  refine mg_iconst (v := 4) C rfl (by decide) ?_
  refine mg_iadd C rfl ?_
  refine mh_sc hX C rfl hf (fun x4 hf => ?_)
  refine mg_aload_n C rfl rfl ?_
  refine mu_cS (kc := 1) (tn := 1) (M' := qL_week) C rfl rfl awL_week tL_week hRm (by omega) (by decide) (by omega) (by omega) rfl rfl (Nat.le_of_ble_eq_true rfl) rfl hQ hf (fun hs => wL_week (by omega) (by omega) hs) (fun r5 c6 n hn1 hn2 hf => ?_)
  refine mg_istore (lv' := [(0, .ref 4000000), (1, .ref v1), (2, .ref v2), (3, .ref v3), (4, .int v4), (5, .int r5)]) C rfl (Nat.le_of_ble_eq_true rfl) rfl ?_
  refine mg_aload_n C rfl rfl ?_
  refine mg_aload_n C rfl rfl ?_
  refine mg_iload C rfl rfl ?_
  refine mg_iconst (v := 1) C rfl (by decide) ?_
  refine mg_iadd C rfl ?_
  refine mh_sc hX C rfl hf (fun x7 hf => ?_)
  refine mg_aload_n C rfl rfl ?_
  refine mg_iload C rfl rfl ?_
  refine mg_iconst (v := 2) C rfl (by decide) ?_
  refine mg_iadd C rfl ?_
  refine mh_sc hX C rfl hf (fun x8 hf => ?_)
  refine mg_aload_n C rfl rfl ?_
  refine mg_iload C rfl rfl ?_
  refine mg_iconst (v := 3) C rfl (by decide) ?_
  refine mg_iadd C rfl ?_
  refine mh_sc hX C rfl hf (fun x9 hf => ?_)
  refine mg_aload_n C rfl rfl ?_
  refine mg_iload C rfl rfl ?_
  refine mg_iconst (v := 4) C rfl (by decide) ?_
  refine mg_iadd C rfl ?_
  refine mh_sc hX C rfl hf (fun x10 hf => ?_)
  refine mh_cVI (M' := qX12_week) C rfl rfl aX12_week iX12_week sX12_week hRm (by omega) (by decide) (by omega) (by omega) rfl rfl rfl (Nat.le_of_ble_eq_true rfl) rfl hf (fun hs => wX12_week (by omega) (by omega) hs) (fun r11 c12 hf => ?_)
  refine mg_istore (lv' := [(0, .ref 4000000), (1, .ref v1), (2, .ref v2), (3, .ref v3), (4, .int v4), (5, .int r5), (6, .int r11)]) C rfl (Nat.le_of_ble_eq_true rfl) rfl ?_
  refine mg_aload_n C rfl rfl ?_
  refine mh_cVI (M' := qX12_thrown) C rfl rfl aX12_thrown iX12_thrown sX12_thrown hRm (by omega) (by decide) (by omega) (by omega) rfl rfl rfl (Nat.le_of_ble_eq_true rfl) rfl hf (fun hs => wX12_thrown (by omega) (by omega) hs) (fun r13 c14 hf => ?_)
  refine mg_iload C rfl rfl ?_
  refine mh_icmp_eq C rfl hf (fun e_2057 hf => ?_) (fun e_2057 hf => ?_)
  · refine mg_iload C rfl rfl ?_
    refine mh_if_ne C rfl hf (fun e_2064 hf => ?_) (fun e_2064 hf => ?_)
    · refine mg_goto C rfl ?_
      refine mg_iinc (lv' := [(0, .ref 4000000), (1, .ref v1), (2, .ref v2), (3, .ref v3), (4, .int (v4 + 6)), (5, .int r5), (6, .int r11)]) C rfl (Nat.le_of_ble_eq_true rfl) rfl (show _ + Int32.ofInt 6 = _ + 6 by congr 1) rfl ?_
      refine mg_goto C rfl ?_
      refine mg_sub (lv' := [(0, .ref 4000000), (1, .ref v1), (2, .ref v2), (3, .ref v3), (4, .int (v4 + 6))]) (by simp) ?_
      exact hk23 _ _ _ _ _ _ _ _ (by omega) (by omega) (by omega) (by omega) (by omega) (by omega) hf
    · refine mg_aload_n C rfl rfl ?_
      refine mg_iconst (v := 0) C rfl (by decide) ?_
      refine mh_aL C rfl hf (fun x15 hf => ?_)
      refine mg_iload C rfl rfl ?_
      refine mg_i2l C rfl ?_
      refine mg_lcmp C rfl ?_
      refine mh_if_eq C rfl hf (fun e_2074 hf => ?_) (fun e_2074 hf => ?_)
      · refine mg_goto C rfl ?_
        refine mg_iinc (lv' := [(0, .ref 4000000), (1, .ref v1), (2, .ref v2), (3, .ref v3), (4, .int (v4 + 6)), (5, .int r5), (6, .int r11)]) C rfl (Nat.le_of_ble_eq_true rfl) rfl (show _ + Int32.ofInt 6 = _ + 6 by congr 1) rfl ?_
        refine mg_goto C rfl ?_
        refine mg_sub (lv' := [(0, .ref 4000000), (1, .ref v1), (2, .ref v2), (3, .ref v3), (4, .int (v4 + 6))]) (by simp) ?_
        exact hk23 _ _ _ _ _ _ _ _ (by omega) (by omega) (by omega) (by omega) (by omega) (by omega) hf
      · refine mg_iconst (v := 0) C rfl (by decide) ?_
        exact mh_zreturn C rfl (by omega) (by omega) rfl hf
  · refine mg_iconst (v := 0) C rfl (by decide) ?_
    exact mh_zreturn C rfl (by omega) (by omega) rfl hf
def bL_law_2082 (N : Nat) (xs : Nat → Int32) (L : Nat)  (k23 : Nat → Nat → Nat → Int32 → mm_C → mR Int32) (v1 : Nat) (v2 : Nat) (v3 : Nat) (v4 : Int32) (c : mm_C) : mR Int32 :=
  cV 11 v1 c (fX11_image N v1 c) fun (_ : Unit) c1 => cV 12 v2 c1 (fX12_image N v2 c1) fun (_ : Unit) c2 => k23 v1 v2 v3 (v4 + 6) c2
set_option maxRecDepth 100000 in
theorem wL_law_2082 {Z : mm_Z} {X : mm_T} {k w mc ms d n N : Nat} {Q : mm_O → mm_H → Prop} {xs : Nat → Int32} {L : Nat} (hX : scX Z X xs L) (hQ : ∀ o a b c, Q o (a, c) → Q o (b, c)) (C : mm_Ok Z qL_law X) (hRm : mt_R X = mm_rm d mc ms) (hd : 200 ≤ d) (hn : n + 4 < 1000000) (hk : k + 4 ≤ mc) (hw : w + 24 ≤ ms) {k23 : Nat → Nat → Nat → Int32 → mm_C → mR Int32} (hk23 : ∀ (v1 : Nat) (v2 : Nat) (v3 : Nat) (v4 : Int32) (c : mm_C) (k1 w1 n1 : Nat), k ≤ k1 → k1 ≤ k + 2 → w ≤ w1 → w1 ≤ w + 12 → n ≤ n1 → n1 ≤ n + 3 → hO 0 ovI n1 (k23 v1 v2 v3 v4 c) Q → mG Z qL_law X k1 w1 mc ms Q (23, [(0, .ref 4000000), (1, .ref v1), (2, .ref v2), (3, .ref v3), (4, .int v4)], [], (n1, c))) {v1 : Nat} {v2 : Nat} {v3 : Nat} {v4 : Int32} {c : mm_C} (hf : hO 0 ovI n (bL_law_2082 N xs L  k23 v1 v2 v3 v4 c) Q) : mG Z qL_law X k w mc ms Q (2082, [(0, .ref 4000000), (1, .ref v1), (2, .ref v2), (3, .ref v3), (4, .int v4)], [], (n, c)) := by
  unfold bL_law_2082 at hf
  refine mg_aload_n C rfl rfl ?_
  refine mh_cVU (M' := qX11_image) C rfl rfl aX11_image iX11_image sX11_image hRm (by omega) (by decide) (by omega) (by omega) rfl rfl rfl (Nat.le_of_ble_eq_true rfl) rfl hf (fun hs => wX11_image (by omega) (by omega) hs) (fun c1 hf => ?_)
  refine mg_aload_n C rfl rfl ?_
  refine mh_cVU (M' := qX12_image) C rfl rfl aX12_image iX12_image sX12_image hRm (by omega) (by decide) (by omega) (by omega) rfl rfl rfl (Nat.le_of_ble_eq_true rfl) rfl hf (fun hs => wX12_image (by omega) (by omega) hs) (fun c2 hf => ?_)
  refine mg_goto C rfl ?_
  refine mg_iinc (lv' := [(0, .ref 4000000), (1, .ref v1), (2, .ref v2), (3, .ref v3), (4, .int (v4 + 6))]) C rfl (Nat.le_of_ble_eq_true rfl) rfl (show _ + Int32.ofInt 6 = _ + 6 by congr 1) rfl ?_
  refine mg_goto C rfl ?_
  exact hk23 _ _ _ _ _ _ _ _ (by omega) (by omega) (by omega) (by omega) (by omega) (by omega) hf
def bL_law_2093 (N : Nat) (xs : Nat → Int32) (L : Nat)  (k23 : Nat → Nat → Nat → Int32 → mm_C → mR Int32) (v1 : Nat) (v2 : Nat) (v3 : Nat) (v4 : Int32) (c : mm_C) : mR Int32 :=
  cV 11 v1 c (fX11_restore N v1 c) fun r1 c2 => cV 12 v2 c2 (fX12_restore N v2 c2) fun r3 c4 => if r1 = r3 then (k23 v1 v2 v3 (v4 + 6) c4) else (rZ (0 : Int32) c4)
set_option maxRecDepth 100000 in
theorem wL_law_2093 {Z : mm_Z} {X : mm_T} {k w mc ms d n N : Nat} {Q : mm_O → mm_H → Prop} {xs : Nat → Int32} {L : Nat} (hX : scX Z X xs L) (hQ : ∀ o a b c, Q o (a, c) → Q o (b, c)) (C : mm_Ok Z qL_law X) (hRm : mt_R X = mm_rm d mc ms) (hd : 200 ≤ d) (hn : n + 4 < 1000000) (hk : k + 4 ≤ mc) (hw : w + 24 ≤ ms) {k23 : Nat → Nat → Nat → Int32 → mm_C → mR Int32} (hk23 : ∀ (v1 : Nat) (v2 : Nat) (v3 : Nat) (v4 : Int32) (c : mm_C) (k1 w1 n1 : Nat), k ≤ k1 → k1 ≤ k + 2 → w ≤ w1 → w1 ≤ w + 12 → n ≤ n1 → n1 ≤ n + 3 → hO 0 ovI n1 (k23 v1 v2 v3 v4 c) Q → mG Z qL_law X k1 w1 mc ms Q (23, [(0, .ref 4000000), (1, .ref v1), (2, .ref v2), (3, .ref v3), (4, .int v4)], [], (n1, c))) {v1 : Nat} {v2 : Nat} {v3 : Nat} {v4 : Int32} {c : mm_C} (hf : hO 0 ovI n (bL_law_2093 N xs L  k23 v1 v2 v3 v4 c) Q) : mG Z qL_law X k w mc ms Q (2093, [(0, .ref 4000000), (1, .ref v1), (2, .ref v2), (3, .ref v3), (4, .int v4)], [], (n, c)) := by
  unfold bL_law_2093 at hf
  refine mg_aload_n C rfl rfl ?_
  refine mh_cVI (M' := qX11_restore) C rfl rfl aX11_restore iX11_restore sX11_restore hRm (by omega) (by decide) (by omega) (by omega) rfl rfl rfl (Nat.le_of_ble_eq_true rfl) rfl hf (fun hs => wX11_restore (by omega) (by omega) hs) (fun r1 c2 hf => ?_)
  refine mg_aload_n C rfl rfl ?_
  refine mh_cVI (M' := qX12_restore) C rfl rfl aX12_restore iX12_restore sX12_restore hRm (by omega) (by decide) (by omega) (by omega) rfl rfl rfl (Nat.le_of_ble_eq_true rfl) rfl hf (fun hs => wX12_restore (by omega) (by omega) hs) (fun r3 c4 hf => ?_)
  refine mh_icmp_eq C rfl hf (fun e_2101 hf => ?_) (fun e_2101 hf => ?_)
  · refine mg_iinc (lv' := [(0, .ref 4000000), (1, .ref v1), (2, .ref v2), (3, .ref v3), (4, .int (v4 + 6))]) C rfl (Nat.le_of_ble_eq_true rfl) rfl (show _ + Int32.ofInt 6 = _ + 6 by congr 1) rfl ?_
    refine mg_goto C rfl ?_
    exact hk23 _ _ _ _ _ _ _ _ (by omega) (by omega) (by omega) (by omega) (by omega) (by omega) hf
  · refine mg_iconst (v := 0) C rfl (by decide) ?_
    exact mh_zreturn C rfl (by omega) (by omega) rfl hf
