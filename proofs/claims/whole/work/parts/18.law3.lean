/- needs: 18.alaw -/
def bL_law_1258 (N : Nat) (xs : Nat → Int32) (L : Nat)  (k23 : Nat → Nat → Nat → Int32 → mm_C → mR Int32) (v1 : Nat) (v2 : Nat) (v3 : Nat) (v4 : Int32) (c : mm_C) : mR Int32 :=
  cV 11 v1 c (fX11_inside N v1 c) fun r1 c2 => cV 12 v2 c2 (fX12_inside N v2 c2) fun r3 c4 => if r1 = r3 then (k23 v1 v2 v3 (v4 + 6) c4) else (rZ (0 : Int32) c4)
set_option maxRecDepth 100000 in
theorem wL_law_1258 {Z : mm_Z} {X : mm_T} {k w mc ms d n N : Nat} {Q : mm_O → mm_H → Prop} {xs : Nat → Int32} {L : Nat} (hX : scX Z X xs L) (hQ : ∀ o a b c, Q o (a, c) → Q o (b, c)) (C : mm_Ok Z qL_law X) (hRm : mt_R X = mm_rm d mc ms) (hd : 200 ≤ d) (hn : n + 4 < 1000000) (hk : k + 4 ≤ mc) (hw : w + 24 ≤ ms) {k23 : Nat → Nat → Nat → Int32 → mm_C → mR Int32} (hk23 : ∀ (v1 : Nat) (v2 : Nat) (v3 : Nat) (v4 : Int32) (c : mm_C) (k1 w1 n1 : Nat), k ≤ k1 → k1 ≤ k + 2 → w ≤ w1 → w1 ≤ w + 12 → n ≤ n1 → n1 ≤ n + 3 → hO 0 ovI n1 (k23 v1 v2 v3 v4 c) Q → mG Z qL_law X k1 w1 mc ms Q (23, [(0, .ref 4000000), (1, .ref v1), (2, .ref v2), (3, .ref v3), (4, .int v4)], [], (n1, c))) {v1 : Nat} {v2 : Nat} {v3 : Nat} {v4 : Int32} {c : mm_C} (hf : hO 0 ovI n (bL_law_1258 N xs L  k23 v1 v2 v3 v4 c) Q) : mG Z qL_law X k w mc ms Q (1258, [(0, .ref 4000000), (1, .ref v1), (2, .ref v2), (3, .ref v3), (4, .int v4)], [], (n, c)) := by
  unfold bL_law_1258 at hf
  refine mg_aload_n C rfl rfl ?_
  refine mh_cVI (M' := qX11_inside) C rfl rfl aX11_inside iX11_inside sX11_inside hRm (by omega) (by decide) (by omega) (by omega) rfl rfl rfl (Nat.le_of_ble_eq_true rfl) rfl hf (fun hs => wX11_inside (by omega) (by omega) hs) (fun r1 c2 hf => ?_)
  refine mg_aload_n C rfl rfl ?_
  refine mh_cVI (M' := qX12_inside) C rfl rfl aX12_inside iX12_inside sX12_inside hRm (by omega) (by decide) (by omega) (by omega) rfl rfl rfl (Nat.le_of_ble_eq_true rfl) rfl hf (fun hs => wX12_inside (by omega) (by omega) hs) (fun r3 c4 hf => ?_)
  refine mh_icmp_eq C rfl hf (fun e_1266 hf => ?_) (fun e_1266 hf => ?_)
  · refine mg_iinc (lv' := [(0, .ref 4000000), (1, .ref v1), (2, .ref v2), (3, .ref v3), (4, .int (v4 + 6))]) C rfl (Nat.le_of_ble_eq_true rfl) rfl (show _ + Int32.ofInt 6 = _ + 6 by congr 1) rfl ?_
    refine mg_goto C rfl ?_
    exact hk23 _ _ _ _ _ _ _ _ (by omega) (by omega) (by omega) (by omega) (by omega) (by omega) hf
  · refine mg_iconst (v := 0) C rfl (by decide) ?_
    exact mh_zreturn C rfl (by omega) (by omega) rfl hf
def bL_law_1271 (N : Nat) (xs : Nat → Int32) (L : Nat)  (k23 : Nat → Nat → Nat → Int32 → mm_C → mR Int32) (v1 : Nat) (v2 : Nat) (v3 : Nat) (v4 : Int32) (c : mm_C) : mR Int32 :=
  Option.bind (sc xs L (v4 + (1 : Int32))) fun x1 => cS (fL_worth N v1 x1 v3 c) fun r2 c3 => Option.bind (sc xs L (v4 + (1 : Int32))) fun x4 => cV 12 v2 c3 (fX12_worth N v2 x4 c3) fun r5 c6 => cV 12 v2 c6 (fX12_thrown N v2 c6) fun r7 c8 => if r7 = r2 then (if ¬ r2 = 0 then (k23 v1 v2 v3 (v4 + 6) c8) else (Option.bind (aL c8 v3 (0 : Int32)) fun x9 => if (lg_cmp x9 r5.toInt64) = 0 then (k23 v1 v2 v3 (v4 + 6) c8) else (rZ (0 : Int32) c8))) else (rZ (0 : Int32) c8)
set_option maxRecDepth 100000 in
theorem wL_law_1271 {Z : mm_Z} {X : mm_T} {k w mc ms d n N : Nat} {Q : mm_O → mm_H → Prop} {xs : Nat → Int32} {L : Nat} (hX : scX Z X xs L) (hQ : ∀ o a b c, Q o (a, c) → Q o (b, c)) (C : mm_Ok Z qL_law X) (hRm : mt_R X = mm_rm d mc ms) (hd : 200 ≤ d) (hn : n + 4 < 1000000) (hk : k + 4 ≤ mc) (hw : w + 24 ≤ ms) {k23 : Nat → Nat → Nat → Int32 → mm_C → mR Int32} (hk23 : ∀ (v1 : Nat) (v2 : Nat) (v3 : Nat) (v4 : Int32) (c : mm_C) (k1 w1 n1 : Nat), k ≤ k1 → k1 ≤ k + 2 → w ≤ w1 → w1 ≤ w + 12 → n ≤ n1 → n1 ≤ n + 3 → hO 0 ovI n1 (k23 v1 v2 v3 v4 c) Q → mG Z qL_law X k1 w1 mc ms Q (23, [(0, .ref 4000000), (1, .ref v1), (2, .ref v2), (3, .ref v3), (4, .int v4)], [], (n1, c))) {v1 : Nat} {v2 : Nat} {v3 : Nat} {v4 : Int32} {c : mm_C} (hf : hO 0 ovI n (bL_law_1271 N xs L  k23 v1 v2 v3 v4 c) Q) : mG Z qL_law X k w mc ms Q (1271, [(0, .ref 4000000), (1, .ref v1), (2, .ref v2), (3, .ref v3), (4, .int v4)], [], (n, c)) := by
  unfold bL_law_1271 at hf
  refine mg_aload_n C rfl rfl ?_
  refine mg_aload_n C rfl rfl ?_
  refine mg_iload C rfl rfl ?_
  refine mg_iconst (v := 1) C rfl (by decide) ?_
  refine mg_iadd C rfl ?_
  refine mh_sc hX C rfl hf (fun x1 hf => ?_)
  refine mg_aload_n C rfl rfl ?_
  refine mu_cS (kc := 1) (tn := 1) (M' := qL_worth) C rfl rfl awL_worth tL_worth hRm (by omega) (by decide) (by omega) (by omega) rfl rfl (Nat.le_of_ble_eq_true rfl) rfl hQ hf (fun hs => wL_worth (by omega) (by omega) hs) (fun r2 c3 n hn1 hn2 hf => ?_)
  refine mg_istore (lv' := [(0, .ref 4000000), (1, .ref v1), (2, .ref v2), (3, .ref v3), (4, .int v4), (5, .int r2)]) C rfl (Nat.le_of_ble_eq_true rfl) rfl ?_
  refine mg_aload_n C rfl rfl ?_
  refine mg_aload_n C rfl rfl ?_
  refine mg_iload C rfl rfl ?_
  refine mg_iconst (v := 1) C rfl (by decide) ?_
  refine mg_iadd C rfl ?_
  refine mh_sc hX C rfl hf (fun x4 hf => ?_)
  refine mh_cVI (M' := qX12_worth) C rfl rfl aX12_worth iX12_worth sX12_worth hRm (by omega) (by decide) (by omega) (by omega) rfl rfl rfl (Nat.le_of_ble_eq_true rfl) rfl hf (fun hs => wX12_worth (by omega) (by omega) hs) (fun r5 c6 hf => ?_)
  refine mg_istore (lv' := [(0, .ref 4000000), (1, .ref v1), (2, .ref v2), (3, .ref v3), (4, .int v4), (5, .int r2), (6, .int r5)]) C rfl (Nat.le_of_ble_eq_true rfl) rfl ?_
  refine mg_aload_n C rfl rfl ?_
  refine mh_cVI (M' := qX12_thrown) C rfl rfl aX12_thrown iX12_thrown sX12_thrown hRm (by omega) (by decide) (by omega) (by omega) rfl rfl rfl (Nat.le_of_ble_eq_true rfl) rfl hf (fun hs => wX12_thrown (by omega) (by omega) hs) (fun r7 c8 hf => ?_)
  refine mg_iload C rfl rfl ?_
  refine mh_icmp_eq C rfl hf (fun e_1302 hf => ?_) (fun e_1302 hf => ?_)
  · refine mg_iload C rfl rfl ?_
    refine mh_if_ne C rfl hf (fun e_1309 hf => ?_) (fun e_1309 hf => ?_)
    · refine mg_goto C rfl ?_
      refine mg_iinc (lv' := [(0, .ref 4000000), (1, .ref v1), (2, .ref v2), (3, .ref v3), (4, .int (v4 + 6)), (5, .int r2), (6, .int r5)]) C rfl (Nat.le_of_ble_eq_true rfl) rfl (show _ + Int32.ofInt 6 = _ + 6 by congr 1) rfl ?_
      refine mg_goto C rfl ?_
      refine mg_sub (lv' := [(0, .ref 4000000), (1, .ref v1), (2, .ref v2), (3, .ref v3), (4, .int (v4 + 6))]) (by simp) ?_
      exact hk23 _ _ _ _ _ _ _ _ (by omega) (by omega) (by omega) (by omega) (by omega) (by omega) hf
    · refine mg_aload_n C rfl rfl ?_
      refine mg_iconst (v := 0) C rfl (by decide) ?_
      refine mh_aL C rfl hf (fun x9 hf => ?_)
      refine mg_iload C rfl rfl ?_
      refine mg_i2l C rfl ?_
      refine mg_lcmp C rfl ?_
      refine mh_if_eq C rfl hf (fun e_1319 hf => ?_) (fun e_1319 hf => ?_)
      · refine mg_goto C rfl ?_
        refine mg_iinc (lv' := [(0, .ref 4000000), (1, .ref v1), (2, .ref v2), (3, .ref v3), (4, .int (v4 + 6)), (5, .int r2), (6, .int r5)]) C rfl (Nat.le_of_ble_eq_true rfl) rfl (show _ + Int32.ofInt 6 = _ + 6 by congr 1) rfl ?_
        refine mg_goto C rfl ?_
        refine mg_sub (lv' := [(0, .ref 4000000), (1, .ref v1), (2, .ref v2), (3, .ref v3), (4, .int (v4 + 6))]) (by simp) ?_
        exact hk23 _ _ _ _ _ _ _ _ (by omega) (by omega) (by omega) (by omega) (by omega) (by omega) hf
      · refine mg_iconst (v := 0) C rfl (by decide) ?_
        exact mh_zreturn C rfl (by omega) (by omega) rfl hf
  · refine mg_iconst (v := 0) C rfl (by decide) ?_
    exact mh_zreturn C rfl (by omega) (by omega) rfl hf
def bL_law_1327 (N : Nat) (xs : Nat → Int32) (L : Nat)  (k23 : Nat → Nat → Nat → Int32 → mm_C → mR Int32) (v1 : Nat) (v2 : Nat) (v3 : Nat) (v4 : Int32) (c : mm_C) : mR Int32 :=
  Option.bind (sc xs L (v4 + (1 : Int32))) fun x1 => Option.bind (sc xs L (v4 + (2 : Int32))) fun x2 => cS (fL_chances N v1 x1 x2 v3 c) fun r3 c4 => Option.bind (sc xs L (v4 + (1 : Int32))) fun x5 => Option.bind (sc xs L (v4 + (2 : Int32))) fun x6 => cV 12 v2 c4 (fX12_chances N v2 x5 x6 c4) fun r7 c8 => cV 12 v2 c8 (fX12_thrown N v2 c8) fun r9 c10 => if r9 = r3 then (if ¬ r3 = 0 then (k23 v1 v2 v3 (v4 + 6) c10) else (Option.bind (aL c10 v3 (0 : Int32)) fun x11 => if (lg_cmp x11 r7.toInt64) = 0 then (k23 v1 v2 v3 (v4 + 6) c10) else (rZ (0 : Int32) c10))) else (rZ (0 : Int32) c10)
set_option maxRecDepth 100000 in
theorem wL_law_1327 {Z : mm_Z} {X : mm_T} {k w mc ms d n N : Nat} {Q : mm_O → mm_H → Prop} {xs : Nat → Int32} {L : Nat} (hX : scX Z X xs L) (hQ : ∀ o a b c, Q o (a, c) → Q o (b, c)) (C : mm_Ok Z qL_law X) (hRm : mt_R X = mm_rm d mc ms) (hd : 200 ≤ d) (hn : n + 4 < 1000000) (hk : k + 4 ≤ mc) (hw : w + 24 ≤ ms) {k23 : Nat → Nat → Nat → Int32 → mm_C → mR Int32} (hk23 : ∀ (v1 : Nat) (v2 : Nat) (v3 : Nat) (v4 : Int32) (c : mm_C) (k1 w1 n1 : Nat), k ≤ k1 → k1 ≤ k + 2 → w ≤ w1 → w1 ≤ w + 12 → n ≤ n1 → n1 ≤ n + 3 → hO 0 ovI n1 (k23 v1 v2 v3 v4 c) Q → mG Z qL_law X k1 w1 mc ms Q (23, [(0, .ref 4000000), (1, .ref v1), (2, .ref v2), (3, .ref v3), (4, .int v4)], [], (n1, c))) {v1 : Nat} {v2 : Nat} {v3 : Nat} {v4 : Int32} {c : mm_C} (hf : hO 0 ovI n (bL_law_1327 N xs L  k23 v1 v2 v3 v4 c) Q) : mG Z qL_law X k w mc ms Q (1327, [(0, .ref 4000000), (1, .ref v1), (2, .ref v2), (3, .ref v3), (4, .int v4)], [], (n, c)) := by
  unfold bL_law_1327 at hf
  refine mg_aload_n C rfl rfl ?_
  refine mg_aload_n C rfl rfl ?_
  refine mg_iload C rfl rfl ?_
  refine mg_iconst (v := 1) C rfl (by decide) ?_
  refine mg_iadd C rfl ?_
  refine mh_sc hX C rfl hf (fun x1 hf => ?_)
  refine mg_aload_n C rfl rfl ?_
  refine mg_iload C rfl rfl ?_
  refine mg_iconst (v := 2) C rfl (by decide) ?_
  refine mg_iadd C rfl ?_
  refine mh_sc hX C rfl hf (fun x2 hf => ?_)
  refine mg_aload_n C rfl rfl ?_
  refine mu_cS (kc := 1) (tn := 1) (M' := qL_chances) C rfl rfl awL_chances tL_chances hRm (by omega) (by decide) (by omega) (by omega) rfl rfl (Nat.le_of_ble_eq_true rfl) rfl hQ hf (fun hs => wL_chances (by omega) (by omega) hs) (fun r3 c4 n hn1 hn2 hf => ?_)
  refine mg_istore (lv' := [(0, .ref 4000000), (1, .ref v1), (2, .ref v2), (3, .ref v3), (4, .int v4), (5, .int r3)]) C rfl (Nat.le_of_ble_eq_true rfl) rfl ?_
  refine mg_aload_n C rfl rfl ?_
  refine mg_aload_n C rfl rfl ?_
  refine mg_iload C rfl rfl ?_
  refine mg_iconst (v := 1) C rfl (by decide) ?_
  refine mg_iadd C rfl ?_
  refine mh_sc hX C rfl hf (fun x5 hf => ?_)
  refine mg_aload_n C rfl rfl ?_
  refine mg_iload C rfl rfl ?_
  refine mg_iconst (v := 2) C rfl (by decide) ?_
  refine mg_iadd C rfl ?_
  refine mh_sc hX C rfl hf (fun x6 hf => ?_)
  refine mh_cVI (M' := qX12_chances) C rfl rfl aX12_chances iX12_chances sX12_chances hRm (by omega) (by decide) (by omega) (by omega) rfl rfl rfl (Nat.le_of_ble_eq_true rfl) rfl hf (fun hs => wX12_chances (by omega) (by omega) hs) (fun r7 c8 hf => ?_)
  refine mg_istore (lv' := [(0, .ref 4000000), (1, .ref v1), (2, .ref v2), (3, .ref v3), (4, .int v4), (5, .int r3), (6, .int r7)]) C rfl (Nat.le_of_ble_eq_true rfl) rfl ?_
  refine mg_aload_n C rfl rfl ?_
  refine mh_cVI (M' := qX12_thrown) C rfl rfl aX12_thrown iX12_thrown sX12_thrown hRm (by omega) (by decide) (by omega) (by omega) rfl rfl rfl (Nat.le_of_ble_eq_true rfl) rfl hf (fun hs => wX12_thrown (by omega) (by omega) hs) (fun r9 c10 hf => ?_)
  refine mg_iload C rfl rfl ?_
  refine mh_icmp_eq C rfl hf (fun e_1370 hf => ?_) (fun e_1370 hf => ?_)
  · refine mg_iload C rfl rfl ?_
    refine mh_if_ne C rfl hf (fun e_1377 hf => ?_) (fun e_1377 hf => ?_)
    · refine mg_goto C rfl ?_
      refine mg_iinc (lv' := [(0, .ref 4000000), (1, .ref v1), (2, .ref v2), (3, .ref v3), (4, .int (v4 + 6)), (5, .int r3), (6, .int r7)]) C rfl (Nat.le_of_ble_eq_true rfl) rfl (show _ + Int32.ofInt 6 = _ + 6 by congr 1) rfl ?_
      refine mg_goto C rfl ?_
      refine mg_sub (lv' := [(0, .ref 4000000), (1, .ref v1), (2, .ref v2), (3, .ref v3), (4, .int (v4 + 6))]) (by simp) ?_
      exact hk23 _ _ _ _ _ _ _ _ (by omega) (by omega) (by omega) (by omega) (by omega) (by omega) hf
    · refine mg_aload_n C rfl rfl ?_
      refine mg_iconst (v := 0) C rfl (by decide) ?_
      refine mh_aL C rfl hf (fun x11 hf => ?_)
      refine mg_iload C rfl rfl ?_
      refine mg_i2l C rfl ?_
      refine mg_lcmp C rfl ?_
      refine mh_if_eq C rfl hf (fun e_1387 hf => ?_) (fun e_1387 hf => ?_)
      · refine mg_goto C rfl ?_
        refine mg_iinc (lv' := [(0, .ref 4000000), (1, .ref v1), (2, .ref v2), (3, .ref v3), (4, .int (v4 + 6)), (5, .int r3), (6, .int r7)]) C rfl (Nat.le_of_ble_eq_true rfl) rfl (show _ + Int32.ofInt 6 = _ + 6 by congr 1) rfl ?_
        refine mg_goto C rfl ?_
        refine mg_sub (lv' := [(0, .ref 4000000), (1, .ref v1), (2, .ref v2), (3, .ref v3), (4, .int (v4 + 6))]) (by simp) ?_
        exact hk23 _ _ _ _ _ _ _ _ (by omega) (by omega) (by omega) (by omega) (by omega) (by omega) hf
      · refine mg_iconst (v := 0) C rfl (by decide) ?_
        exact mh_zreturn C rfl (by omega) (by omega) rfl hf
  · refine mg_iconst (v := 0) C rfl (by decide) ?_
    exact mh_zreturn C rfl (by omega) (by omega) rfl hf
def bL_law_1395 (N : Nat) (xs : Nat → Int32) (L : Nat)  (k23 : Nat → Nat → Nat → Int32 → mm_C → mR Int32) (v1 : Nat) (v2 : Nat) (v3 : Nat) (v4 : Int32) (c : mm_C) : mR Int32 :=
  Option.bind (sc xs L (v4 + (1 : Int32))) fun x1 => cS (fL_without N v1 x1 v3 c) fun r2 c3 => Option.bind (sc xs L (v4 + (1 : Int32))) fun x4 => cV 12 v2 c3 (fX12_without N v2 x4 c3) fun r5 c6 => cV 12 v2 c6 (fX12_thrown N v2 c6) fun r7 c8 => if r7 = r2 then (if ¬ r2 = 0 then (k23 v1 v2 v3 (v4 + 6) c8) else (Option.bind (aL c8 v3 (0 : Int32)) fun x9 => if (lg_cmp x9 r5.toInt64) = 0 then (k23 v1 v2 v3 (v4 + 6) c8) else (rZ (0 : Int32) c8))) else (rZ (0 : Int32) c8)
set_option maxRecDepth 100000 in
theorem wL_law_1395 {Z : mm_Z} {X : mm_T} {k w mc ms d n N : Nat} {Q : mm_O → mm_H → Prop} {xs : Nat → Int32} {L : Nat} (hX : scX Z X xs L) (hQ : ∀ o a b c, Q o (a, c) → Q o (b, c)) (C : mm_Ok Z qL_law X) (hRm : mt_R X = mm_rm d mc ms) (hd : 200 ≤ d) (hn : n + 4 < 1000000) (hk : k + 4 ≤ mc) (hw : w + 24 ≤ ms) {k23 : Nat → Nat → Nat → Int32 → mm_C → mR Int32} (hk23 : ∀ (v1 : Nat) (v2 : Nat) (v3 : Nat) (v4 : Int32) (c : mm_C) (k1 w1 n1 : Nat), k ≤ k1 → k1 ≤ k + 2 → w ≤ w1 → w1 ≤ w + 12 → n ≤ n1 → n1 ≤ n + 3 → hO 0 ovI n1 (k23 v1 v2 v3 v4 c) Q → mG Z qL_law X k1 w1 mc ms Q (23, [(0, .ref 4000000), (1, .ref v1), (2, .ref v2), (3, .ref v3), (4, .int v4)], [], (n1, c))) {v1 : Nat} {v2 : Nat} {v3 : Nat} {v4 : Int32} {c : mm_C} (hf : hO 0 ovI n (bL_law_1395 N xs L  k23 v1 v2 v3 v4 c) Q) : mG Z qL_law X k w mc ms Q (1395, [(0, .ref 4000000), (1, .ref v1), (2, .ref v2), (3, .ref v3), (4, .int v4)], [], (n, c)) := by
  unfold bL_law_1395 at hf
  refine mg_aload_n C rfl rfl ?_
  refine mg_aload_n C rfl rfl ?_
  refine mg_iload C rfl rfl ?_
  refine mg_iconst (v := 1) C rfl (by decide) ?_
  refine mg_iadd C rfl ?_
  refine mh_sc hX C rfl hf (fun x1 hf => ?_)
  refine mg_aload_n C rfl rfl ?_
  refine mu_cS (kc := 1) (tn := 1) (M' := qL_without) C rfl rfl awL_without tL_without hRm (by omega) (by decide) (by omega) (by omega) rfl rfl (Nat.le_of_ble_eq_true rfl) rfl hQ hf (fun hs => wL_without (by omega) (by omega) hs) (fun r2 c3 n hn1 hn2 hf => ?_)
  refine mg_istore (lv' := [(0, .ref 4000000), (1, .ref v1), (2, .ref v2), (3, .ref v3), (4, .int v4), (5, .int r2)]) C rfl (Nat.le_of_ble_eq_true rfl) rfl ?_
  refine mg_aload_n C rfl rfl ?_
  refine mg_aload_n C rfl rfl ?_
  refine mg_iload C rfl rfl ?_
  refine mg_iconst (v := 1) C rfl (by decide) ?_
  refine mg_iadd C rfl ?_
  refine mh_sc hX C rfl hf (fun x4 hf => ?_)
  refine mh_cVI (M' := qX12_without) C rfl rfl aX12_without iX12_without sX12_without hRm (by omega) (by decide) (by omega) (by omega) rfl rfl rfl (Nat.le_of_ble_eq_true rfl) rfl hf (fun hs => wX12_without (by omega) (by omega) hs) (fun r5 c6 hf => ?_)
  refine mg_istore (lv' := [(0, .ref 4000000), (1, .ref v1), (2, .ref v2), (3, .ref v3), (4, .int v4), (5, .int r2), (6, .int r5)]) C rfl (Nat.le_of_ble_eq_true rfl) rfl ?_
  refine mg_aload_n C rfl rfl ?_
  refine mh_cVI (M' := qX12_thrown) C rfl rfl aX12_thrown iX12_thrown sX12_thrown hRm (by omega) (by decide) (by omega) (by omega) rfl rfl rfl (Nat.le_of_ble_eq_true rfl) rfl hf (fun hs => wX12_thrown (by omega) (by omega) hs) (fun r7 c8 hf => ?_)
  refine mg_iload C rfl rfl ?_
  refine mh_icmp_eq C rfl hf (fun e_1426 hf => ?_) (fun e_1426 hf => ?_)
  · refine mg_iload C rfl rfl ?_
    refine mh_if_ne C rfl hf (fun e_1433 hf => ?_) (fun e_1433 hf => ?_)
    · refine mg_goto C rfl ?_
      refine mg_iinc (lv' := [(0, .ref 4000000), (1, .ref v1), (2, .ref v2), (3, .ref v3), (4, .int (v4 + 6)), (5, .int r2), (6, .int r5)]) C rfl (Nat.le_of_ble_eq_true rfl) rfl (show _ + Int32.ofInt 6 = _ + 6 by congr 1) rfl ?_
      refine mg_goto C rfl ?_
      refine mg_sub (lv' := [(0, .ref 4000000), (1, .ref v1), (2, .ref v2), (3, .ref v3), (4, .int (v4 + 6))]) (by simp) ?_
      exact hk23 _ _ _ _ _ _ _ _ (by omega) (by omega) (by omega) (by omega) (by omega) (by omega) hf
    · refine mg_aload_n C rfl rfl ?_
      refine mg_iconst (v := 0) C rfl (by decide) ?_
      refine mh_aL C rfl hf (fun x9 hf => ?_)
      refine mg_iload C rfl rfl ?_
      refine mg_i2l C rfl ?_
      refine mg_lcmp C rfl ?_
      refine mh_if_eq C rfl hf (fun e_1443 hf => ?_) (fun e_1443 hf => ?_)
      · refine mg_goto C rfl ?_
        refine mg_iinc (lv' := [(0, .ref 4000000), (1, .ref v1), (2, .ref v2), (3, .ref v3), (4, .int (v4 + 6)), (5, .int r2), (6, .int r5)]) C rfl (Nat.le_of_ble_eq_true rfl) rfl (show _ + Int32.ofInt 6 = _ + 6 by congr 1) rfl ?_
        refine mg_goto C rfl ?_
        refine mg_sub (lv' := [(0, .ref 4000000), (1, .ref v1), (2, .ref v2), (3, .ref v3), (4, .int (v4 + 6))]) (by simp) ?_
        exact hk23 _ _ _ _ _ _ _ _ (by omega) (by omega) (by omega) (by omega) (by omega) (by omega) hf
      · refine mg_iconst (v := 0) C rfl (by decide) ?_
        exact mh_zreturn C rfl (by omega) (by omega) rfl hf
  · refine mg_iconst (v := 0) C rfl (by decide) ?_
    exact mh_zreturn C rfl (by omega) (by omega) rfl hf
def bL_law_1451 (N : Nat) (xs : Nat → Int32) (L : Nat)  (k23 : Nat → Nat → Nat → Int32 → mm_C → mR Int32) (v1 : Nat) (v2 : Nat) (v3 : Nat) (v4 : Int32) (c : mm_C) : mR Int32 :=
  Option.bind (sc xs L (v4 + (1 : Int32))) fun x1 => cS (fL_shorter N v1 x1 v3 c) fun r2 c3 => Option.bind (sc xs L (v4 + (1 : Int32))) fun x4 => cV 12 v2 c3 (fX12_shorter N v2 x4 c3) fun r5 c6 => cV 12 v2 c6 (fX12_thrown N v2 c6) fun r7 c8 => if r7 = r2 then (if ¬ r2 = 0 then (k23 v1 v2 v3 (v4 + 6) c8) else (Option.bind (aL c8 v3 (0 : Int32)) fun x9 => if (lg_cmp x9 r5.toInt64) = 0 then (k23 v1 v2 v3 (v4 + 6) c8) else (rZ (0 : Int32) c8))) else (rZ (0 : Int32) c8)
set_option maxRecDepth 100000 in
theorem wL_law_1451 {Z : mm_Z} {X : mm_T} {k w mc ms d n N : Nat} {Q : mm_O → mm_H → Prop} {xs : Nat → Int32} {L : Nat} (hX : scX Z X xs L) (hQ : ∀ o a b c, Q o (a, c) → Q o (b, c)) (C : mm_Ok Z qL_law X) (hRm : mt_R X = mm_rm d mc ms) (hd : 200 ≤ d) (hn : n + 4 < 1000000) (hk : k + 4 ≤ mc) (hw : w + 24 ≤ ms) {k23 : Nat → Nat → Nat → Int32 → mm_C → mR Int32} (hk23 : ∀ (v1 : Nat) (v2 : Nat) (v3 : Nat) (v4 : Int32) (c : mm_C) (k1 w1 n1 : Nat), k ≤ k1 → k1 ≤ k + 2 → w ≤ w1 → w1 ≤ w + 12 → n ≤ n1 → n1 ≤ n + 3 → hO 0 ovI n1 (k23 v1 v2 v3 v4 c) Q → mG Z qL_law X k1 w1 mc ms Q (23, [(0, .ref 4000000), (1, .ref v1), (2, .ref v2), (3, .ref v3), (4, .int v4)], [], (n1, c))) {v1 : Nat} {v2 : Nat} {v3 : Nat} {v4 : Int32} {c : mm_C} (hf : hO 0 ovI n (bL_law_1451 N xs L  k23 v1 v2 v3 v4 c) Q) : mG Z qL_law X k w mc ms Q (1451, [(0, .ref 4000000), (1, .ref v1), (2, .ref v2), (3, .ref v3), (4, .int v4)], [], (n, c)) := by
  unfold bL_law_1451 at hf
  refine mg_aload_n C rfl rfl ?_
  refine mg_aload_n C rfl rfl ?_
  refine mg_iload C rfl rfl ?_
  refine mg_iconst (v := 1) C rfl (by decide) ?_
  refine mg_iadd C rfl ?_
  refine mh_sc hX C rfl hf (fun x1 hf => ?_)
  refine mg_aload_n C rfl rfl ?_
  refine mu_cS (kc := 1) (tn := 1) (M' := qL_shorter) C rfl rfl awL_shorter tL_shorter hRm (by omega) (by decide) (by omega) (by omega) rfl rfl (Nat.le_of_ble_eq_true rfl) rfl hQ hf (fun hs => wL_shorter (by omega) (by omega) hs) (fun r2 c3 n hn1 hn2 hf => ?_)
  refine mg_istore (lv' := [(0, .ref 4000000), (1, .ref v1), (2, .ref v2), (3, .ref v3), (4, .int v4), (5, .int r2)]) C rfl (Nat.le_of_ble_eq_true rfl) rfl ?_
  refine mg_aload_n C rfl rfl ?_
  refine mg_aload_n C rfl rfl ?_
  refine mg_iload C rfl rfl ?_
  refine mg_iconst (v := 1) C rfl (by decide) ?_
  refine mg_iadd C rfl ?_
  refine mh_sc hX C rfl hf (fun x4 hf => ?_)
  refine mh_cVI (M' := qX12_shorter) C rfl rfl aX12_shorter iX12_shorter sX12_shorter hRm (by omega) (by decide) (by omega) (by omega) rfl rfl rfl (Nat.le_of_ble_eq_true rfl) rfl hf (fun hs => wX12_shorter (by omega) (by omega) hs) (fun r5 c6 hf => ?_)
  refine mg_istore (lv' := [(0, .ref 4000000), (1, .ref v1), (2, .ref v2), (3, .ref v3), (4, .int v4), (5, .int r2), (6, .int r5)]) C rfl (Nat.le_of_ble_eq_true rfl) rfl ?_
  refine mg_aload_n C rfl rfl ?_
  refine mh_cVI (M' := qX12_thrown) C rfl rfl aX12_thrown iX12_thrown sX12_thrown hRm (by omega) (by decide) (by omega) (by omega) rfl rfl rfl (Nat.le_of_ble_eq_true rfl) rfl hf (fun hs => wX12_thrown (by omega) (by omega) hs) (fun r7 c8 hf => ?_)
  refine mg_iload C rfl rfl ?_
  refine mh_icmp_eq C rfl hf (fun e_1482 hf => ?_) (fun e_1482 hf => ?_)
  · refine mg_iload C rfl rfl ?_
    refine mh_if_ne C rfl hf (fun e_1489 hf => ?_) (fun e_1489 hf => ?_)
    · refine mg_goto C rfl ?_
      refine mg_iinc (lv' := [(0, .ref 4000000), (1, .ref v1), (2, .ref v2), (3, .ref v3), (4, .int (v4 + 6)), (5, .int r2), (6, .int r5)]) C rfl (Nat.le_of_ble_eq_true rfl) rfl (show _ + Int32.ofInt 6 = _ + 6 by congr 1) rfl ?_
      refine mg_goto C rfl ?_
      refine mg_sub (lv' := [(0, .ref 4000000), (1, .ref v1), (2, .ref v2), (3, .ref v3), (4, .int (v4 + 6))]) (by simp) ?_
      exact hk23 _ _ _ _ _ _ _ _ (by omega) (by omega) (by omega) (by omega) (by omega) (by omega) hf
    · refine mg_aload_n C rfl rfl ?_
      refine mg_iconst (v := 0) C rfl (by decide) ?_
      refine mh_aL C rfl hf (fun x9 hf => ?_)
      refine mg_iload C rfl rfl ?_
      refine mg_i2l C rfl ?_
      refine mg_lcmp C rfl ?_
      refine mh_if_eq C rfl hf (fun e_1499 hf => ?_) (fun e_1499 hf => ?_)
      · refine mg_goto C rfl ?_
        refine mg_iinc (lv' := [(0, .ref 4000000), (1, .ref v1), (2, .ref v2), (3, .ref v3), (4, .int (v4 + 6)), (5, .int r2), (6, .int r5)]) C rfl (Nat.le_of_ble_eq_true rfl) rfl (show _ + Int32.ofInt 6 = _ + 6 by congr 1) rfl ?_
        refine mg_goto C rfl ?_
        refine mg_sub (lv' := [(0, .ref 4000000), (1, .ref v1), (2, .ref v2), (3, .ref v3), (4, .int (v4 + 6))]) (by simp) ?_
        exact hk23 _ _ _ _ _ _ _ _ (by omega) (by omega) (by omega) (by omega) (by omega) (by omega) hf
      · refine mg_iconst (v := 0) C rfl (by decide) ?_
        exact mh_zreturn C rfl (by omega) (by omega) rfl hf
  · refine mg_iconst (v := 0) C rfl (by decide) ?_
    exact mh_zreturn C rfl (by omega) (by omega) rfl hf
def bL_law_1507 (N : Nat) (xs : Nat → Int32) (L : Nat)  (k23 : Nat → Nat → Nat → Int32 → mm_C → mR Int32) (v1 : Nat) (v2 : Nat) (v3 : Nat) (v4 : Int32) (c : mm_C) : mR Int32 :=
  Option.bind (sc xs L (v4 + (1 : Int32))) fun x1 => Option.bind (sc xs L (v4 + (2 : Int32))) fun x2 => cS (fL_idle N v1 x1 x2 v3 c) fun r3 c4 => Option.bind (sc xs L (v4 + (1 : Int32))) fun x5 => Option.bind (sc xs L (v4 + (2 : Int32))) fun x6 => cV 12 v2 c4 (fX12_idle N v2 x5 x6 c4) fun r7 c8 => cV 12 v2 c8 (fX12_thrown N v2 c8) fun r9 c10 => if r9 = r3 then (if ¬ r3 = 0 then (k23 v1 v2 v3 (v4 + 6) c10) else (Option.bind (aL c10 v3 (0 : Int32)) fun x11 => if (lg_cmp x11 r7.toInt64) = 0 then (k23 v1 v2 v3 (v4 + 6) c10) else (rZ (0 : Int32) c10))) else (rZ (0 : Int32) c10)
set_option maxRecDepth 100000 in
theorem wL_law_1507 {Z : mm_Z} {X : mm_T} {k w mc ms d n N : Nat} {Q : mm_O → mm_H → Prop} {xs : Nat → Int32} {L : Nat} (hX : scX Z X xs L) (hQ : ∀ o a b c, Q o (a, c) → Q o (b, c)) (C : mm_Ok Z qL_law X) (hRm : mt_R X = mm_rm d mc ms) (hd : 200 ≤ d) (hn : n + 4 < 1000000) (hk : k + 4 ≤ mc) (hw : w + 24 ≤ ms) {k23 : Nat → Nat → Nat → Int32 → mm_C → mR Int32} (hk23 : ∀ (v1 : Nat) (v2 : Nat) (v3 : Nat) (v4 : Int32) (c : mm_C) (k1 w1 n1 : Nat), k ≤ k1 → k1 ≤ k + 2 → w ≤ w1 → w1 ≤ w + 12 → n ≤ n1 → n1 ≤ n + 3 → hO 0 ovI n1 (k23 v1 v2 v3 v4 c) Q → mG Z qL_law X k1 w1 mc ms Q (23, [(0, .ref 4000000), (1, .ref v1), (2, .ref v2), (3, .ref v3), (4, .int v4)], [], (n1, c))) {v1 : Nat} {v2 : Nat} {v3 : Nat} {v4 : Int32} {c : mm_C} (hf : hO 0 ovI n (bL_law_1507 N xs L  k23 v1 v2 v3 v4 c) Q) : mG Z qL_law X k w mc ms Q (1507, [(0, .ref 4000000), (1, .ref v1), (2, .ref v2), (3, .ref v3), (4, .int v4)], [], (n, c)) := by
  unfold bL_law_1507 at hf
  refine mg_aload_n C rfl rfl ?_
  refine mg_aload_n C rfl rfl ?_
  refine mg_iload C rfl rfl ?_
  refine mg_iconst (v := 1) C rfl (by decide) ?_
  refine mg_iadd C rfl ?_
  refine mh_sc hX C rfl hf (fun x1 hf => ?_)
  refine mg_aload_n C rfl rfl ?_
  refine mg_iload C rfl rfl ?_
  refine mg_iconst (v := 2) C rfl (by decide) ?_
  refine mg_iadd C rfl ?_
  refine mh_sc hX C rfl hf (fun x2 hf => ?_)
  refine mg_aload_n C rfl rfl ?_
  refine mu_cS (kc := 1) (tn := 1) (M' := qL_idle) C rfl rfl awL_idle tL_idle hRm (by omega) (by decide) (by omega) (by omega) rfl rfl (Nat.le_of_ble_eq_true rfl) rfl hQ hf (fun hs => wL_idle (by omega) (by omega) hs) (fun r3 c4 n hn1 hn2 hf => ?_)
  refine mg_istore (lv' := [(0, .ref 4000000), (1, .ref v1), (2, .ref v2), (3, .ref v3), (4, .int v4), (5, .int r3)]) C rfl (Nat.le_of_ble_eq_true rfl) rfl ?_
  refine mg_aload_n C rfl rfl ?_
  refine mg_aload_n C rfl rfl ?_
  refine mg_iload C rfl rfl ?_
  refine mg_iconst (v := 1) C rfl (by decide) ?_
  refine mg_iadd C rfl ?_
  refine mh_sc hX C rfl hf (fun x5 hf => ?_)
  refine mg_aload_n C rfl rfl ?_
  refine mg_iload C rfl rfl ?_
  refine mg_iconst (v := 2) C rfl (by decide) ?_
  refine mg_iadd C rfl ?_
  refine mh_sc hX C rfl hf (fun x6 hf => ?_)
  refine mh_cVI (M' := qX12_idle) C rfl rfl aX12_idle iX12_idle sX12_idle hRm (by omega) (by decide) (by omega) (by omega) rfl rfl rfl (Nat.le_of_ble_eq_true rfl) rfl hf (fun hs => wX12_idle (by omega) (by omega) hs) (fun r7 c8 hf => ?_)
  refine mg_istore (lv' := [(0, .ref 4000000), (1, .ref v1), (2, .ref v2), (3, .ref v3), (4, .int v4), (5, .int r3), (6, .int r7)]) C rfl (Nat.le_of_ble_eq_true rfl) rfl ?_
  refine mg_aload_n C rfl rfl ?_
  refine mh_cVI (M' := qX12_thrown) C rfl rfl aX12_thrown iX12_thrown sX12_thrown hRm (by omega) (by decide) (by omega) (by omega) rfl rfl rfl (Nat.le_of_ble_eq_true rfl) rfl hf (fun hs => wX12_thrown (by omega) (by omega) hs) (fun r9 c10 hf => ?_)
  refine mg_iload C rfl rfl ?_
  refine mh_icmp_eq C rfl hf (fun e_1550 hf => ?_) (fun e_1550 hf => ?_)
  · refine mg_iload C rfl rfl ?_
    refine mh_if_ne C rfl hf (fun e_1557 hf => ?_) (fun e_1557 hf => ?_)
    · refine mg_goto C rfl ?_
      refine mg_iinc (lv' := [(0, .ref 4000000), (1, .ref v1), (2, .ref v2), (3, .ref v3), (4, .int (v4 + 6)), (5, .int r3), (6, .int r7)]) C rfl (Nat.le_of_ble_eq_true rfl) rfl (show _ + Int32.ofInt 6 = _ + 6 by congr 1) rfl ?_
      refine mg_goto C rfl ?_
      refine mg_sub (lv' := [(0, .ref 4000000), (1, .ref v1), (2, .ref v2), (3, .ref v3), (4, .int (v4 + 6))]) (by simp) ?_
      exact hk23 _ _ _ _ _ _ _ _ (by omega) (by omega) (by omega) (by omega) (by omega) (by omega) hf
    · refine mg_aload_n C rfl rfl ?_
      refine mg_iconst (v := 0) C rfl (by decide) ?_
      refine mh_aL C rfl hf (fun x11 hf => ?_)
      refine mg_iload C rfl rfl ?_
      refine mg_i2l C rfl ?_
      refine mg_lcmp C rfl ?_
      refine mh_if_eq C rfl hf (fun e_1567 hf => ?_) (fun e_1567 hf => ?_)
      · refine mg_goto C rfl ?_
        refine mg_iinc (lv' := [(0, .ref 4000000), (1, .ref v1), (2, .ref v2), (3, .ref v3), (4, .int (v4 + 6)), (5, .int r3), (6, .int r7)]) C rfl (Nat.le_of_ble_eq_true rfl) rfl (show _ + Int32.ofInt 6 = _ + 6 by congr 1) rfl ?_
        refine mg_goto C rfl ?_
        refine mg_sub (lv' := [(0, .ref 4000000), (1, .ref v1), (2, .ref v2), (3, .ref v3), (4, .int (v4 + 6))]) (by simp) ?_
        exact hk23 _ _ _ _ _ _ _ _ (by omega) (by omega) (by omega) (by omega) (by omega) (by omega) hf
      · refine mg_iconst (v := 0) C rfl (by decide) ?_
        exact mh_zreturn C rfl (by omega) (by omega) rfl hf
  · refine mg_iconst (v := 0) C rfl (by decide) ?_
    exact mh_zreturn C rfl (by omega) (by omega) rfl hf
def bL_law_1575 (N : Nat) (xs : Nat → Int32) (L : Nat)  (k23 : Nat → Nat → Nat → Int32 → mm_C → mR Int32) (v1 : Nat) (v2 : Nat) (v3 : Nat) (v4 : Int32) (c : mm_C) : mR Int32 :=
  cV 11 v1 c (fX11_regret N v1 c) fun r1 c2 => cV 12 v2 c2 (fX12_regret N v2 c2) fun r3 c4 => if r1 = r3 then (k23 v1 v2 v3 (v4 + 6) c4) else (rZ (0 : Int32) c4)
set_option maxRecDepth 100000 in
theorem wL_law_1575 {Z : mm_Z} {X : mm_T} {k w mc ms d n N : Nat} {Q : mm_O → mm_H → Prop} {xs : Nat → Int32} {L : Nat} (hX : scX Z X xs L) (hQ : ∀ o a b c, Q o (a, c) → Q o (b, c)) (C : mm_Ok Z qL_law X) (hRm : mt_R X = mm_rm d mc ms) (hd : 200 ≤ d) (hn : n + 4 < 1000000) (hk : k + 4 ≤ mc) (hw : w + 24 ≤ ms) {k23 : Nat → Nat → Nat → Int32 → mm_C → mR Int32} (hk23 : ∀ (v1 : Nat) (v2 : Nat) (v3 : Nat) (v4 : Int32) (c : mm_C) (k1 w1 n1 : Nat), k ≤ k1 → k1 ≤ k + 2 → w ≤ w1 → w1 ≤ w + 12 → n ≤ n1 → n1 ≤ n + 3 → hO 0 ovI n1 (k23 v1 v2 v3 v4 c) Q → mG Z qL_law X k1 w1 mc ms Q (23, [(0, .ref 4000000), (1, .ref v1), (2, .ref v2), (3, .ref v3), (4, .int v4)], [], (n1, c))) {v1 : Nat} {v2 : Nat} {v3 : Nat} {v4 : Int32} {c : mm_C} (hf : hO 0 ovI n (bL_law_1575 N xs L  k23 v1 v2 v3 v4 c) Q) : mG Z qL_law X k w mc ms Q (1575, [(0, .ref 4000000), (1, .ref v1), (2, .ref v2), (3, .ref v3), (4, .int v4)], [], (n, c)) := by
  unfold bL_law_1575 at hf
  refine mg_aload_n C rfl rfl ?_
  refine mh_cVI (M' := qX11_regret) C rfl rfl aX11_regret iX11_regret sX11_regret hRm (by omega) (by decide) (by omega) (by omega) rfl rfl rfl (Nat.le_of_ble_eq_true rfl) rfl hf (fun hs => wX11_regret (by omega) (by omega) hs) (fun r1 c2 hf => ?_)
  refine mg_aload_n C rfl rfl ?_
  refine mh_cVI (M' := qX12_regret) C rfl rfl aX12_regret iX12_regret sX12_regret hRm (by omega) (by decide) (by omega) (by omega) rfl rfl rfl (Nat.le_of_ble_eq_true rfl) rfl hf (fun hs => wX12_regret (by omega) (by omega) hs) (fun r3 c4 hf => ?_)
  refine mh_icmp_eq C rfl hf (fun e_1583 hf => ?_) (fun e_1583 hf => ?_)
  · refine mg_iinc (lv' := [(0, .ref 4000000), (1, .ref v1), (2, .ref v2), (3, .ref v3), (4, .int (v4 + 6))]) C rfl (Nat.le_of_ble_eq_true rfl) rfl (show _ + Int32.ofInt 6 = _ + 6 by congr 1) rfl ?_
    refine mg_goto C rfl ?_
    exact hk23 _ _ _ _ _ _ _ _ (by omega) (by omega) (by omega) (by omega) (by omega) (by omega) hf
  · refine mg_iconst (v := 0) C rfl (by decide) ?_
    exact mh_zreturn C rfl (by omega) (by omega) rfl hf
def bL_law_1588 (N : Nat) (xs : Nat → Int32) (L : Nat)  (k23 : Nat → Nat → Nat → Int32 → mm_C → mR Int32) (v1 : Nat) (v2 : Nat) (v3 : Nat) (v4 : Int32) (c : mm_C) : mR Int32 :=
  Option.bind (sc xs L (v4 + (1 : Int32))) fun x1 => cS (fL_holes N v1 x1 v3 c) fun r2 c3 => Option.bind (sc xs L (v4 + (1 : Int32))) fun x4 => cV 12 v2 c3 (fX12_holes N v2 x4 c3) fun r5 c6 => cV 12 v2 c6 (fX12_thrown N v2 c6) fun r7 c8 => if r7 = r2 then (if ¬ r2 = 0 then (k23 v1 v2 v3 (v4 + 6) c8) else (Option.bind (aL c8 v3 (0 : Int32)) fun x9 => if (lg_cmp x9 r5.toInt64) = 0 then (k23 v1 v2 v3 (v4 + 6) c8) else (rZ (0 : Int32) c8))) else (rZ (0 : Int32) c8)
set_option maxRecDepth 100000 in
theorem wL_law_1588 {Z : mm_Z} {X : mm_T} {k w mc ms d n N : Nat} {Q : mm_O → mm_H → Prop} {xs : Nat → Int32} {L : Nat} (hX : scX Z X xs L) (hQ : ∀ o a b c, Q o (a, c) → Q o (b, c)) (C : mm_Ok Z qL_law X) (hRm : mt_R X = mm_rm d mc ms) (hd : 200 ≤ d) (hn : n + 4 < 1000000) (hk : k + 4 ≤ mc) (hw : w + 24 ≤ ms) {k23 : Nat → Nat → Nat → Int32 → mm_C → mR Int32} (hk23 : ∀ (v1 : Nat) (v2 : Nat) (v3 : Nat) (v4 : Int32) (c : mm_C) (k1 w1 n1 : Nat), k ≤ k1 → k1 ≤ k + 2 → w ≤ w1 → w1 ≤ w + 12 → n ≤ n1 → n1 ≤ n + 3 → hO 0 ovI n1 (k23 v1 v2 v3 v4 c) Q → mG Z qL_law X k1 w1 mc ms Q (23, [(0, .ref 4000000), (1, .ref v1), (2, .ref v2), (3, .ref v3), (4, .int v4)], [], (n1, c))) {v1 : Nat} {v2 : Nat} {v3 : Nat} {v4 : Int32} {c : mm_C} (hf : hO 0 ovI n (bL_law_1588 N xs L  k23 v1 v2 v3 v4 c) Q) : mG Z qL_law X k w mc ms Q (1588, [(0, .ref 4000000), (1, .ref v1), (2, .ref v2), (3, .ref v3), (4, .int v4)], [], (n, c)) := by
  unfold bL_law_1588 at hf
  refine mg_aload_n C rfl rfl ?_
  refine mg_aload_n C rfl rfl ?_
  refine mg_iload C rfl rfl ?_
  refine mg_iconst (v := 1) C rfl (by decide) ?_
  refine mg_iadd C rfl ?_
  refine mh_sc hX C rfl hf (fun x1 hf => ?_)
  refine mg_aload_n C rfl rfl ?_
  refine mu_cS (kc := 1) (tn := 1) (M' := qL_holes) C rfl rfl awL_holes tL_holes hRm (by omega) (by decide) (by omega) (by omega) rfl rfl (Nat.le_of_ble_eq_true rfl) rfl hQ hf (fun hs => wL_holes (by omega) (by omega) hs) (fun r2 c3 n hn1 hn2 hf => ?_)
  refine mg_istore (lv' := [(0, .ref 4000000), (1, .ref v1), (2, .ref v2), (3, .ref v3), (4, .int v4), (5, .int r2)]) C rfl (Nat.le_of_ble_eq_true rfl) rfl ?_
  refine mg_aload_n C rfl rfl ?_
  refine mg_aload_n C rfl rfl ?_
  refine mg_iload C rfl rfl ?_
  refine mg_iconst (v := 1) C rfl (by decide) ?_
  refine mg_iadd C rfl ?_
  refine mh_sc hX C rfl hf (fun x4 hf => ?_)
  refine mh_cVI (M' := qX12_holes) C rfl rfl aX12_holes iX12_holes sX12_holes hRm (by omega) (by decide) (by omega) (by omega) rfl rfl rfl (Nat.le_of_ble_eq_true rfl) rfl hf (fun hs => wX12_holes (by omega) (by omega) hs) (fun r5 c6 hf => ?_)
  refine mg_istore (lv' := [(0, .ref 4000000), (1, .ref v1), (2, .ref v2), (3, .ref v3), (4, .int v4), (5, .int r2), (6, .int r5)]) C rfl (Nat.le_of_ble_eq_true rfl) rfl ?_
  refine mg_aload_n C rfl rfl ?_
  refine mh_cVI (M' := qX12_thrown) C rfl rfl aX12_thrown iX12_thrown sX12_thrown hRm (by omega) (by decide) (by omega) (by omega) rfl rfl rfl (Nat.le_of_ble_eq_true rfl) rfl hf (fun hs => wX12_thrown (by omega) (by omega) hs) (fun r7 c8 hf => ?_)
  refine mg_iload C rfl rfl ?_
  refine mh_icmp_eq C rfl hf (fun e_1619 hf => ?_) (fun e_1619 hf => ?_)
  · refine mg_iload C rfl rfl ?_
    refine mh_if_ne C rfl hf (fun e_1626 hf => ?_) (fun e_1626 hf => ?_)
    · refine mg_goto C rfl ?_
      refine mg_iinc (lv' := [(0, .ref 4000000), (1, .ref v1), (2, .ref v2), (3, .ref v3), (4, .int (v4 + 6)), (5, .int r2), (6, .int r5)]) C rfl (Nat.le_of_ble_eq_true rfl) rfl (show _ + Int32.ofInt 6 = _ + 6 by congr 1) rfl ?_
      refine mg_goto C rfl ?_
      refine mg_sub (lv' := [(0, .ref 4000000), (1, .ref v1), (2, .ref v2), (3, .ref v3), (4, .int (v4 + 6))]) (by simp) ?_
      exact hk23 _ _ _ _ _ _ _ _ (by omega) (by omega) (by omega) (by omega) (by omega) (by omega) hf
    · refine mg_aload_n C rfl rfl ?_
      refine mg_iconst (v := 0) C rfl (by decide) ?_
      refine mh_aL C rfl hf (fun x9 hf => ?_)
      refine mg_iload C rfl rfl ?_
      refine mg_i2l C rfl ?_
      refine mg_lcmp C rfl ?_
      refine mh_if_eq C rfl hf (fun e_1636 hf => ?_) (fun e_1636 hf => ?_)
      · refine mg_goto C rfl ?_
        refine mg_iinc (lv' := [(0, .ref 4000000), (1, .ref v1), (2, .ref v2), (3, .ref v3), (4, .int (v4 + 6)), (5, .int r2), (6, .int r5)]) C rfl (Nat.le_of_ble_eq_true rfl) rfl (show _ + Int32.ofInt 6 = _ + 6 by congr 1) rfl ?_
        refine mg_goto C rfl ?_
        refine mg_sub (lv' := [(0, .ref 4000000), (1, .ref v1), (2, .ref v2), (3, .ref v3), (4, .int (v4 + 6))]) (by simp) ?_
        exact hk23 _ _ _ _ _ _ _ _ (by omega) (by omega) (by omega) (by omega) (by omega) (by omega) hf
      · refine mg_iconst (v := 0) C rfl (by decide) ?_
        exact mh_zreturn C rfl (by omega) (by omega) rfl hf
  · refine mg_iconst (v := 0) C rfl (by decide) ?_
    exact mh_zreturn C rfl (by omega) (by omega) rfl hf
def bL_law_1644 (N : Nat) (xs : Nat → Int32) (L : Nat)  (k23 : Nat → Nat → Nat → Int32 → mm_C → mR Int32) (v1 : Nat) (v2 : Nat) (v3 : Nat) (v4 : Int32) (c : mm_C) : mR Int32 :=
  Option.bind (sc xs L (v4 + (1 : Int32))) fun x1 => cS (fL_hole N v1 x1 v3 c) fun r2 c3 => Option.bind (sc xs L (v4 + (1 : Int32))) fun x4 => cV 12 v2 c3 (fX12_hole N v2 x4 c3) fun r5 c6 => cV 12 v2 c6 (fX12_thrown N v2 c6) fun r7 c8 => if r7 = r2 then (if ¬ r2 = 0 then (k23 v1 v2 v3 (v4 + 6) c8) else (Option.bind (aL c8 v3 (0 : Int32)) fun x9 => if (lg_cmp x9 r5.toInt64) = 0 then (k23 v1 v2 v3 (v4 + 6) c8) else (rZ (0 : Int32) c8))) else (rZ (0 : Int32) c8)
set_option maxRecDepth 100000 in
theorem wL_law_1644 {Z : mm_Z} {X : mm_T} {k w mc ms d n N : Nat} {Q : mm_O → mm_H → Prop} {xs : Nat → Int32} {L : Nat} (hX : scX Z X xs L) (hQ : ∀ o a b c, Q o (a, c) → Q o (b, c)) (C : mm_Ok Z qL_law X) (hRm : mt_R X = mm_rm d mc ms) (hd : 200 ≤ d) (hn : n + 4 < 1000000) (hk : k + 4 ≤ mc) (hw : w + 24 ≤ ms) {k23 : Nat → Nat → Nat → Int32 → mm_C → mR Int32} (hk23 : ∀ (v1 : Nat) (v2 : Nat) (v3 : Nat) (v4 : Int32) (c : mm_C) (k1 w1 n1 : Nat), k ≤ k1 → k1 ≤ k + 2 → w ≤ w1 → w1 ≤ w + 12 → n ≤ n1 → n1 ≤ n + 3 → hO 0 ovI n1 (k23 v1 v2 v3 v4 c) Q → mG Z qL_law X k1 w1 mc ms Q (23, [(0, .ref 4000000), (1, .ref v1), (2, .ref v2), (3, .ref v3), (4, .int v4)], [], (n1, c))) {v1 : Nat} {v2 : Nat} {v3 : Nat} {v4 : Int32} {c : mm_C} (hf : hO 0 ovI n (bL_law_1644 N xs L  k23 v1 v2 v3 v4 c) Q) : mG Z qL_law X k w mc ms Q (1644, [(0, .ref 4000000), (1, .ref v1), (2, .ref v2), (3, .ref v3), (4, .int v4)], [], (n, c)) := by
  unfold bL_law_1644 at hf
  refine mg_aload_n C rfl rfl ?_
  refine mg_aload_n C rfl rfl ?_
  refine mg_iload C rfl rfl ?_
  refine mg_iconst (v := 1) C rfl (by decide) ?_
  refine mg_iadd C rfl ?_
  refine mh_sc hX C rfl hf (fun x1 hf => ?_)
  refine mg_aload_n C rfl rfl ?_
  refine mu_cS (kc := 1) (tn := 1) (M' := qL_hole) C rfl rfl awL_hole tL_hole hRm (by omega) (by decide) (by omega) (by omega) rfl rfl (Nat.le_of_ble_eq_true rfl) rfl hQ hf (fun hs => wL_hole (by omega) (by omega) hs) (fun r2 c3 n hn1 hn2 hf => ?_)
  refine mg_istore (lv' := [(0, .ref 4000000), (1, .ref v1), (2, .ref v2), (3, .ref v3), (4, .int v4), (5, .int r2)]) C rfl (Nat.le_of_ble_eq_true rfl) rfl ?_
  refine mg_aload_n C rfl rfl ?_
  refine mg_aload_n C rfl rfl ?_
  refine mg_iload C rfl rfl ?_
  refine mg_iconst (v := 1) C rfl (by decide) ?_
  refine mg_iadd C rfl ?_
  refine mh_sc hX C rfl hf (fun x4 hf => ?_)
  refine mh_cVI (M' := qX12_hole) C rfl rfl aX12_hole iX12_hole sX12_hole hRm (by omega) (by decide) (by omega) (by omega) rfl rfl rfl (Nat.le_of_ble_eq_true rfl) rfl hf (fun hs => wX12_hole (by omega) (by omega) hs) (fun r5 c6 hf => ?_)
  refine mg_istore (lv' := [(0, .ref 4000000), (1, .ref v1), (2, .ref v2), (3, .ref v3), (4, .int v4), (5, .int r2), (6, .int r5)]) C rfl (Nat.le_of_ble_eq_true rfl) rfl ?_
  refine mg_aload_n C rfl rfl ?_
  refine mh_cVI (M' := qX12_thrown) C rfl rfl aX12_thrown iX12_thrown sX12_thrown hRm (by omega) (by decide) (by omega) (by omega) rfl rfl rfl (Nat.le_of_ble_eq_true rfl) rfl hf (fun hs => wX12_thrown (by omega) (by omega) hs) (fun r7 c8 hf => ?_)
  refine mg_iload C rfl rfl ?_
  refine mh_icmp_eq C rfl hf (fun e_1675 hf => ?_) (fun e_1675 hf => ?_)
  · refine mg_iload C rfl rfl ?_
    refine mh_if_ne C rfl hf (fun e_1682 hf => ?_) (fun e_1682 hf => ?_)
    · refine mg_goto C rfl ?_
      refine mg_iinc (lv' := [(0, .ref 4000000), (1, .ref v1), (2, .ref v2), (3, .ref v3), (4, .int (v4 + 6)), (5, .int r2), (6, .int r5)]) C rfl (Nat.le_of_ble_eq_true rfl) rfl (show _ + Int32.ofInt 6 = _ + 6 by congr 1) rfl ?_
      refine mg_goto C rfl ?_
      refine mg_sub (lv' := [(0, .ref 4000000), (1, .ref v1), (2, .ref v2), (3, .ref v3), (4, .int (v4 + 6))]) (by simp) ?_
      exact hk23 _ _ _ _ _ _ _ _ (by omega) (by omega) (by omega) (by omega) (by omega) (by omega) hf
    · refine mg_aload_n C rfl rfl ?_
      refine mg_iconst (v := 0) C rfl (by decide) ?_
      refine mh_aL C rfl hf (fun x9 hf => ?_)
      refine mg_iload C rfl rfl ?_
      refine mg_i2l C rfl ?_
      refine mg_lcmp C rfl ?_
      refine mh_if_eq C rfl hf (fun e_1692 hf => ?_) (fun e_1692 hf => ?_)
      · refine mg_goto C rfl ?_
        refine mg_iinc (lv' := [(0, .ref 4000000), (1, .ref v1), (2, .ref v2), (3, .ref v3), (4, .int (v4 + 6)), (5, .int r2), (6, .int r5)]) C rfl (Nat.le_of_ble_eq_true rfl) rfl (show _ + Int32.ofInt 6 = _ + 6 by congr 1) rfl ?_
        refine mg_goto C rfl ?_
        refine mg_sub (lv' := [(0, .ref 4000000), (1, .ref v1), (2, .ref v2), (3, .ref v3), (4, .int (v4 + 6))]) (by simp) ?_
        exact hk23 _ _ _ _ _ _ _ _ (by omega) (by omega) (by omega) (by omega) (by omega) (by omega) hf
      · refine mg_iconst (v := 0) C rfl (by decide) ?_
        exact mh_zreturn C rfl (by omega) (by omega) rfl hf
  · refine mg_iconst (v := 0) C rfl (by decide) ?_
    exact mh_zreturn C rfl (by omega) (by omega) rfl hf
def bL_law_1700 (N : Nat) (xs : Nat → Int32) (L : Nat)  (k23 : Nat → Nat → Nat → Int32 → mm_C → mR Int32) (v1 : Nat) (v2 : Nat) (v3 : Nat) (v4 : Int32) (c : mm_C) : mR Int32 :=
  Option.bind (sc xs L (v4 + (1 : Int32))) fun x1 => Option.bind (sc xs L (v4 + (2 : Int32))) fun x2 => Option.bind (sc xs L (v4 + (3 : Int32))) fun x3 => cS (fL_lasts N v1 x1 x2 x3 v3 c) fun r4 c5 => Option.bind (sc xs L (v4 + (1 : Int32))) fun x6 => Option.bind (sc xs L (v4 + (2 : Int32))) fun x7 => Option.bind (sc xs L (v4 + (3 : Int32))) fun x8 => cV 12 v2 c5 (fX12_lasts N v2 x6 x7 x8 c5) fun r9 c10 => cV 12 v2 c10 (fX12_thrown N v2 c10) fun r11 c12 => if r11 = r4 then (if ¬ r4 = 0 then (k23 v1 v2 v3 (v4 + 6) c12) else (Option.bind (aL c12 v3 (0 : Int32)) fun x13 => if (lg_cmp x13 r9) = 0 then (k23 v1 v2 v3 (v4 + 6) c12) else (rZ (0 : Int32) c12))) else (rZ (0 : Int32) c12)
set_option maxRecDepth 100000 in
theorem wL_law_1700 {Z : mm_Z} {X : mm_T} {k w mc ms d n N : Nat} {Q : mm_O → mm_H → Prop} {xs : Nat → Int32} {L : Nat} (hX : scX Z X xs L) (hQ : ∀ o a b c, Q o (a, c) → Q o (b, c)) (C : mm_Ok Z qL_law X) (hRm : mt_R X = mm_rm d mc ms) (hd : 200 ≤ d) (hn : n + 4 < 1000000) (hk : k + 4 ≤ mc) (hw : w + 24 ≤ ms) {k23 : Nat → Nat → Nat → Int32 → mm_C → mR Int32} (hk23 : ∀ (v1 : Nat) (v2 : Nat) (v3 : Nat) (v4 : Int32) (c : mm_C) (k1 w1 n1 : Nat), k ≤ k1 → k1 ≤ k + 2 → w ≤ w1 → w1 ≤ w + 12 → n ≤ n1 → n1 ≤ n + 3 → hO 0 ovI n1 (k23 v1 v2 v3 v4 c) Q → mG Z qL_law X k1 w1 mc ms Q (23, [(0, .ref 4000000), (1, .ref v1), (2, .ref v2), (3, .ref v3), (4, .int v4)], [], (n1, c))) {v1 : Nat} {v2 : Nat} {v3 : Nat} {v4 : Int32} {c : mm_C} (hf : hO 0 ovI n (bL_law_1700 N xs L  k23 v1 v2 v3 v4 c) Q) : mG Z qL_law X k w mc ms Q (1700, [(0, .ref 4000000), (1, .ref v1), (2, .ref v2), (3, .ref v3), (4, .int v4)], [], (n, c)) := by
  unfold bL_law_1700 at hf
  refine mg_aload_n C rfl rfl ?_
  refine mg_aload_n C rfl rfl ?_
  refine mg_iload C rfl rfl ?_
  refine mg_iconst (v := 1) C rfl (by decide) ?_
  refine mg_iadd C rfl ?_
  refine mh_sc hX C rfl hf (fun x1 hf => ?_)
  refine mg_aload_n C rfl rfl ?_
  refine mg_iload C rfl rfl ?_
  refine mg_iconst (v := 2) C rfl (by decide) ?_
  refine mg_iadd C rfl ?_
  refine mh_sc hX C rfl hf (fun x2 hf => ?_)
  refine mg_aload_n C rfl rfl ?_
  refine mg_iload C rfl rfl ?_
  refine mg_iconst (v := 3) C rfl (by decide) ?_
  refine mg_iadd C rfl ?_
  refine mh_sc hX C rfl hf (fun x3 hf => ?_)
  refine mg_aload_n C rfl rfl ?_
  refine mu_cS (kc := 1) (tn := 1) (M' := qL_lasts) C rfl rfl awL_lasts tL_lasts hRm (by omega) (by decide) (by omega) (by omega) rfl rfl (Nat.le_of_ble_eq_true rfl) rfl hQ hf (fun hs => wL_lasts (by omega) (by omega) hs) (fun r4 c5 n hn1 hn2 hf => ?_)
  refine mg_istore (lv' := [(0, .ref 4000000), (1, .ref v1), (2, .ref v2), (3, .ref v3), (4, .int v4), (5, .int r4)]) C rfl (Nat.le_of_ble_eq_true rfl) rfl ?_
  refine mg_aload_n C rfl rfl ?_
  refine mg_aload_n C rfl rfl ?_
  refine mg_iload C rfl rfl ?_
  refine mg_iconst (v := 1) C rfl (by decide) ?_
  refine mg_iadd C rfl ?_
  refine mh_sc hX C rfl hf (fun x6 hf => ?_)
  refine mg_aload_n C rfl rfl ?_
  refine mg_iload C rfl rfl ?_
  refine mg_iconst (v := 2) C rfl (by decide) ?_
  refine mg_iadd C rfl ?_
  refine mh_sc hX C rfl hf (fun x7 hf => ?_)
  refine mg_aload_n C rfl rfl ?_
  refine mg_iload C rfl rfl ?_
  refine mg_iconst (v := 3) C rfl (by decide) ?_
  refine mg_iadd C rfl ?_
  refine mh_sc hX C rfl hf (fun x8 hf => ?_)
  refine mh_cVL (M' := qX12_lasts) C rfl rfl aX12_lasts iX12_lasts sX12_lasts hRm (by omega) (by decide) (by omega) (by omega) rfl rfl rfl (Nat.le_of_ble_eq_true rfl) rfl hf (fun hs => wX12_lasts (by omega) (by omega) hs) (fun r9 c10 hf => ?_)
  refine mg_lstore (lv' := [(0, .ref 4000000), (1, .ref v1), (2, .ref v2), (3, .ref v3), (4, .int v4), (5, .int r4), (6, .long r9)]) C rfl (Nat.le_of_ble_eq_true rfl) rfl ?_
  refine mg_aload_n C rfl rfl ?_
  refine mh_cVI (M' := qX12_thrown) C rfl rfl aX12_thrown iX12_thrown sX12_thrown hRm (by omega) (by decide) (by omega) (by omega) rfl rfl rfl (Nat.le_of_ble_eq_true rfl) rfl hf (fun hs => wX12_thrown (by omega) (by omega) hs) (fun r11 c12 hf => ?_)
  refine mg_iload C rfl rfl ?_
  refine mh_icmp_eq C rfl hf (fun e_1755 hf => ?_) (fun e_1755 hf => ?_)
  · refine mg_iload C rfl rfl ?_
    refine mh_if_ne C rfl hf (fun e_1762 hf => ?_) (fun e_1762 hf => ?_)
    · refine mg_goto C rfl ?_
      refine mg_iinc (lv' := [(0, .ref 4000000), (1, .ref v1), (2, .ref v2), (3, .ref v3), (4, .int (v4 + 6)), (5, .int r4), (6, .long r9)]) C rfl (Nat.le_of_ble_eq_true rfl) rfl (show _ + Int32.ofInt 6 = _ + 6 by congr 1) rfl ?_
      refine mg_goto C rfl ?_
      refine mg_sub (lv' := [(0, .ref 4000000), (1, .ref v1), (2, .ref v2), (3, .ref v3), (4, .int (v4 + 6))]) (by simp) ?_
      exact hk23 _ _ _ _ _ _ _ _ (by omega) (by omega) (by omega) (by omega) (by omega) (by omega) hf
    · refine mg_aload_n C rfl rfl ?_
      refine mg_iconst (v := 0) C rfl (by decide) ?_
      refine mh_aL C rfl hf (fun x13 hf => ?_)
      refine mg_lload C rfl rfl ?_
      refine mg_lcmp C rfl ?_
      refine mh_if_eq C rfl hf (fun e_1771 hf => ?_) (fun e_1771 hf => ?_)
      · refine mg_goto C rfl ?_
        refine mg_iinc (lv' := [(0, .ref 4000000), (1, .ref v1), (2, .ref v2), (3, .ref v3), (4, .int (v4 + 6)), (5, .int r4), (6, .long r9)]) C rfl (Nat.le_of_ble_eq_true rfl) rfl (show _ + Int32.ofInt 6 = _ + 6 by congr 1) rfl ?_
        refine mg_goto C rfl ?_
        refine mg_sub (lv' := [(0, .ref 4000000), (1, .ref v1), (2, .ref v2), (3, .ref v3), (4, .int (v4 + 6))]) (by simp) ?_
        exact hk23 _ _ _ _ _ _ _ _ (by omega) (by omega) (by omega) (by omega) (by omega) (by omega) hf
      · refine mg_iconst (v := 0) C rfl (by decide) ?_
        exact mh_zreturn C rfl (by omega) (by omega) rfl hf
  · refine mg_iconst (v := 0) C rfl (by decide) ?_
    exact mh_zreturn C rfl (by omega) (by omega) rfl hf
