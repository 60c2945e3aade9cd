/- needs: 18.alaw -/
def bL_law_204 (N : Nat) (xs : Nat → Int32) (L : Nat)  (k23 : Nat → Nat → Nat → Int32 → mm_C → mR Int32) (v1 : Nat) (v2 : Nat) (v3 : Nat) (v4 : Int32) (c : mm_C) : mR Int32 :=
  Option.bind (sc xs L (v4 + (1 : Int32))) fun x1 => Option.bind (sc xs L (v4 + (2 : Int32))) fun x2 => Option.bind (sc xs L (v4 + (3 : Int32))) fun x3 => Option.bind (sc xs L (v4 + (4 : Int32))) fun x4 => Option.bind (sc xs L (v4 + (5 : Int32))) fun x5 => cV 11 v1 c (fX11_feed N v1 x1 x2 x3 x4 x5 c) fun r6 c7 => Option.bind (sc xs L (v4 + (1 : Int32))) fun x8 => Option.bind (sc xs L (v4 + (2 : Int32))) fun x9 => Option.bind (sc xs L (v4 + (3 : Int32))) fun x10 => Option.bind (sc xs L (v4 + (4 : Int32))) fun x11 => Option.bind (sc xs L (v4 + (5 : Int32))) fun x12 => cV 12 v2 c7 (fX12_feed N v2 x8 x9 x10 x11 x12 c7) fun r13 c14 => if r6 = r13 then (k23 v1 v2 v3 (v4 + 6) c14) else (rZ (0 : Int32) c14)
set_option maxRecDepth 100000 in
theorem wL_law_204 {Z : mm_Z} {X : mm_T} {k w mc ms d n N : Nat} {Q : mm_O → mm_H → Prop} {xs : Nat → Int32} {L : Nat} (hX : scX Z X xs L) (hQ : ∀ o a b c, Q o (a, c) → Q o (b, c)) (C : mm_Ok Z qL_law X) (hRm : mt_R X = mm_rm d mc ms) (hd : 200 ≤ d) (hn : n + 4 < 1000000) (hk : k + 4 ≤ mc) (hw : w + 24 ≤ ms) {k23 : Nat → Nat → Nat → Int32 → mm_C → mR Int32} (hk23 : ∀ (v1 : Nat) (v2 : Nat) (v3 : Nat) (v4 : Int32) (c : mm_C) (k1 w1 n1 : Nat), k ≤ k1 → k1 ≤ k + 2 → w ≤ w1 → w1 ≤ w + 12 → n ≤ n1 → n1 ≤ n + 3 → hO 0 ovI n1 (k23 v1 v2 v3 v4 c) Q → mG Z qL_law X k1 w1 mc ms Q (23, [(0, .ref 4000000), (1, .ref v1), (2, .ref v2), (3, .ref v3), (4, .int v4)], [], (n1, c))) {v1 : Nat} {v2 : Nat} {v3 : Nat} {v4 : Int32} {c : mm_C} (hf : hO 0 ovI n (bL_law_204 N xs L  k23 v1 v2 v3 v4 c) Q) : mG Z qL_law X k w mc ms Q (204, [(0, .ref 4000000), (1, .ref v1), (2, .ref v2), (3, .ref v3), (4, .int v4)], [], (n, c)) := by
  unfold bL_law_204 at hf
  refine mg_aload_n C rfl rfl ?_
  refine mg_aload_n C rfl rfl ?_
  refine mg_iload C rfl rfl ?_
  refine mg_iconst (v := 1) C rfl (by decide) ?_
  refine mg_iadd C rfl ?_
  refine mh_sc hX C rfl hf (fun x1 hf => ?_)
  refine mg_aload_n C rfl rfl ?_
  refine mg_iload C rfl rfl ?_
  refine mg_iconst (v := 2) C rfl (by decide) ?_
  refine mg_iadd C rfl ?_
  refine mh_sc hX C rfl hf (fun x2 hf => ?_)
  refine mg_aload_n C rfl rfl ?_
  refine mg_iload C rfl rfl ?_
  refine mg_iconst (v := 3) C rfl (by decide) ?_
  refine mg_iadd C rfl ?_
  refine mh_sc hX C rfl hf (fun x3 hf => ?_)
  refine mg_aload_n C rfl rfl ?_
  refine mg_iload C rfl rfl ?_
  refine mg_iconst (v := 4) C rfl (by decide) ?_
  refine mg_iadd C rfl ?_
  refine mh_sc hX C rfl hf (fun x4 hf => ?_)
  refine mg_aload_n C rfl rfl ?_
  refine mg_iload C rfl rfl ?_
  refine mg_iconst (v := 5) C rfl (by decide) ?_
  refine mg_iadd C rfl ?_
  refine mh_sc hX C rfl hf (fun x5 hf => ?_)
  refine mh_cVI (M' := qX11_feed) C rfl rfl aX11_feed iX11_feed sX11_feed hRm (by omega) (by decide) (by omega) (by omega) rfl rfl rfl (Nat.le_of_ble_eq_true rfl) rfl hf (fun hs => wX11_feed (by omega) (by omega) hs) (fun r6 c7 hf => ?_)
  refine mg_aload_n C rfl rfl ?_
  refine mg_aload_n C rfl rfl ?_
  refine mg_iload C rfl rfl ?_
  refine mg_iconst (v := 1) C rfl (by decide) ?_
  refine mg_iadd C rfl ?_
  refine mh_sc hX C rfl hf (fun x8 hf => ?_)
  refine mg_aload_n C rfl rfl ?_
  refine mg_iload C rfl rfl ?_
  refine mg_iconst (v := 2) C rfl (by decide) ?_
  refine mg_iadd C rfl ?_
  refine mh_sc hX C rfl hf (fun x9 hf => ?_)
  refine mg_aload_n C rfl rfl ?_
  refine mg_iload C rfl rfl ?_
  refine mg_iconst (v := 3) C rfl (by decide) ?_
  refine mg_iadd C rfl ?_
  refine mh_sc hX C rfl hf (fun x10 hf => ?_)
  refine mg_aload_n C rfl rfl ?_
  refine mg_iload C rfl rfl ?_
  refine mg_iconst (v := 4) C rfl (by decide) ?_
  refine mg_iadd C rfl ?_
  refine mh_sc hX C rfl hf (fun x11 hf => ?_)
  refine mg_aload_n C rfl rfl ?_
  refine mg_iload C rfl rfl ?_
  refine mg_iconst (v := 5) C rfl (by decide) ?_
  refine mg_iadd C rfl ?_
  refine mh_sc hX C rfl hf (fun x12 hf => ?_)
  refine mh_cVI (M' := qX12_feed) C rfl rfl aX12_feed iX12_feed sX12_feed hRm (by omega) (by decide) (by omega) (by omega) rfl rfl rfl (Nat.le_of_ble_eq_true rfl) rfl hf (fun hs => wX12_feed (by omega) (by omega) hs) (fun r13 c14 hf => ?_)
  refine mh_icmp_eq C rfl hf (fun e_272 hf => ?_) (fun e_272 hf => ?_)
  · refine mg_iinc (lv' := [(0, .ref 4000000), (1, .ref v1), (2, .ref v2), (3, .ref v3), (4, .int (v4 + 6))]) C rfl (Nat.le_of_ble_eq_true rfl) rfl (show _ + Int32.ofInt 6 = _ + 6 by congr 1) rfl ?_
    refine mg_goto C rfl ?_
    exact hk23 _ _ _ _ _ _ _ _ (by omega) (by omega) (by omega) (by omega) (by omega) (by omega) hf
  · refine mg_iconst (v := 0) C rfl (by decide) ?_
    exact mh_zreturn C rfl (by omega) (by omega) rfl hf
def bL_law_277 (N : Nat) (xs : Nat → Int32) (L : Nat)  (k23 : Nat → Nat → Nat → Int32 → mm_C → mR Int32) (v1 : Nat) (v2 : Nat) (v3 : Nat) (v4 : Int32) (c : mm_C) : mR Int32 :=
  Option.bind (sc xs L (v4 + (1 : Int32))) fun x1 => cS (fL_plan N v1 x1 v3 c) fun r2 c3 => Option.bind (sc xs L (v4 + (1 : Int32))) fun x4 => cV 12 v2 c3 (fX12_plan N v2 x4 c3) fun r5 c6 => cV 12 v2 c6 (fX12_thrown N v2 c6) fun r7 c8 => if r7 = r2 then (if ¬ r2 = 0 then (k23 v1 v2 v3 (v4 + 6) c8) else (Option.bind (aL c8 v3 (0 : Int32)) fun x9 => if (lg_cmp x9 r5.toInt64) = 0 then (k23 v1 v2 v3 (v4 + 6) c8) else (rZ (0 : Int32) c8))) else (rZ (0 : Int32) c8)
set_option maxRecDepth 100000 in
theorem wL_law_277 {Z : mm_Z} {X : mm_T} {k w mc ms d n N : Nat} {Q : mm_O → mm_H → Prop} {xs : Nat → Int32} {L : Nat} (hX : scX Z X xs L) (hQ : ∀ o a b c, Q o (a, c) → Q o (b, c)) (C : mm_Ok Z qL_law X) (hRm : mt_R X = mm_rm d mc ms) (hd : 200 ≤ d) (hn : n + 4 < 1000000) (hk : k + 4 ≤ mc) (hw : w + 24 ≤ ms) {k23 : Nat → Nat → Nat → Int32 → mm_C → mR Int32} (hk23 : ∀ (v1 : Nat) (v2 : Nat) (v3 : Nat) (v4 : Int32) (c : mm_C) (k1 w1 n1 : Nat), k ≤ k1 → k1 ≤ k + 2 → w ≤ w1 → w1 ≤ w + 12 → n ≤ n1 → n1 ≤ n + 3 → hO 0 ovI n1 (k23 v1 v2 v3 v4 c) Q → mG Z qL_law X k1 w1 mc ms Q (23, [(0, .ref 4000000), (1, .ref v1), (2, .ref v2), (3, .ref v3), (4, .int v4)], [], (n1, c))) {v1 : Nat} {v2 : Nat} {v3 : Nat} {v4 : Int32} {c : mm_C} (hf : hO 0 ovI n (bL_law_277 N xs L  k23 v1 v2 v3 v4 c) Q) : mG Z qL_law X k w mc ms Q (277, [(0, .ref 4000000), (1, .ref v1), (2, .ref v2), (3, .ref v3), (4, .int v4)], [], (n, c)) := by
  unfold bL_law_277 at hf
  refine mg_aload_n C rfl rfl ?_
  refine mg_aload_n C rfl rfl ?_
  refine mg_iload C rfl rfl ?_
  refine mg_iconst (v := 1) C rfl (by decide) ?_
  refine mg_iadd C rfl ?_
  refine mh_sc hX C rfl hf (fun x1 hf => ?_)
  refine mg_aload_n C rfl rfl ?_
  refine mu_cS (kc := 2) (tn := 2) (M' := qL_plan) C rfl rfl awL_plan tL_plan hRm (by omega) (by decide) (by omega) (by omega) rfl rfl (Nat.le_of_ble_eq_true rfl) rfl hQ hf (fun hs => wL_plan (by omega) (by omega) hs) (fun r2 c3 n hn1 hn2 hf => ?_)
  refine mg_istore (lv' := [(0, .ref 4000000), (1, .ref v1), (2, .ref v2), (3, .ref v3), (4, .int v4), (5, .int r2)]) C rfl (Nat.le_of_ble_eq_true rfl) rfl ?_
  refine mg_aload_n C rfl rfl ?_
  refine mg_aload_n C rfl rfl ?_
  refine mg_iload C rfl rfl ?_
  refine mg_iconst (v := 1) C rfl (by decide) ?_
  refine mg_iadd C rfl ?_
  refine mh_sc hX C rfl hf (fun x4 hf => ?_)
  refine mh_cVI (M' := qX12_plan) C rfl rfl aX12_plan iX12_plan sX12_plan hRm (by omega) (by decide) (by omega) (by omega) rfl rfl rfl (Nat.le_of_ble_eq_true rfl) rfl hf (fun hs => wX12_plan (by omega) (by omega) hs) (fun r5 c6 hf => ?_)
  refine mg_istore (lv' := [(0, .ref 4000000), (1, .ref v1), (2, .ref v2), (3, .ref v3), (4, .int v4), (5, .int r2), (6, .int r5)]) C rfl (Nat.le_of_ble_eq_true rfl) rfl ?_
  refine mg_aload_n C rfl rfl ?_
  refine mh_cVI (M' := qX12_thrown) C rfl rfl aX12_thrown iX12_thrown sX12_thrown hRm (by omega) (by decide) (by omega) (by omega) rfl rfl rfl (Nat.le_of_ble_eq_true rfl) rfl hf (fun hs => wX12_thrown (by omega) (by omega) hs) (fun r7 c8 hf => ?_)
  refine mg_iload C rfl rfl ?_
  refine mh_icmp_eq C rfl hf (fun e_308 hf => ?_) (fun e_308 hf => ?_)
  · refine mg_iload C rfl rfl ?_
    refine mh_if_ne C rfl hf (fun e_315 hf => ?_) (fun e_315 hf => ?_)
    · refine mg_goto C rfl ?_
      refine mg_iinc (lv' := [(0, .ref 4000000), (1, .ref v1), (2, .ref v2), (3, .ref v3), (4, .int (v4 + 6)), (5, .int r2), (6, .int r5)]) C rfl (Nat.le_of_ble_eq_true rfl) rfl (show _ + Int32.ofInt 6 = _ + 6 by congr 1) rfl ?_
      refine mg_goto C rfl ?_
      refine mg_sub (lv' := [(0, .ref 4000000), (1, .ref v1), (2, .ref v2), (3, .ref v3), (4, .int (v4 + 6))]) (by simp) ?_
      exact hk23 _ _ _ _ _ _ _ _ (by omega) (by omega) (by omega) (by omega) (by omega) (by omega) hf
    · refine mg_aload_n C rfl rfl ?_
      refine mg_iconst (v := 0) C rfl (by decide) ?_
      refine mh_aL C rfl hf (fun x9 hf => ?_)
      refine mg_iload C rfl rfl ?_
      refine mg_i2l C rfl ?_
      refine mg_lcmp C rfl ?_
      refine mh_if_eq C rfl hf (fun e_325 hf => ?_) (fun e_325 hf => ?_)
      · refine mg_goto C rfl ?_
        refine mg_iinc (lv' := [(0, .ref 4000000), (1, .ref v1), (2, .ref v2), (3, .ref v3), (4, .int (v4 + 6)), (5, .int r2), (6, .int r5)]) C rfl (Nat.le_of_ble_eq_true rfl) rfl (show _ + Int32.ofInt 6 = _ + 6 by congr 1) rfl ?_
        refine mg_goto C rfl ?_
        refine mg_sub (lv' := [(0, .ref 4000000), (1, .ref v1), (2, .ref v2), (3, .ref v3), (4, .int (v4 + 6))]) (by simp) ?_
        exact hk23 _ _ _ _ _ _ _ _ (by omega) (by omega) (by omega) (by omega) (by omega) (by omega) hf
      · refine mg_iconst (v := 0) C rfl (by decide) ?_
        exact mh_zreturn C rfl (by omega) (by omega) rfl hf
  · refine mg_iconst (v := 0) C rfl (by decide) ?_
    exact mh_zreturn C rfl (by omega) (by omega) rfl hf
def bL_law_333 (N : Nat) (xs : Nat → Int32) (L : Nat)  (k23 : Nat → Nat → Nat → Int32 → mm_C → mR Int32) (v1 : Nat) (v2 : Nat) (v3 : Nat) (v4 : Int32) (c : mm_C) : mR Int32 :=
  cV 11 v1 c (fX11_fault N v1 c) fun r1 c2 => cV 12 v2 c2 (fX12_fault N v2 c2) fun r3 c4 => if r1 = r3 then (k23 v1 v2 v3 (v4 + 6) c4) else (rZ (0 : Int32) c4)
set_option maxRecDepth 100000 in
theorem wL_law_333 {Z : mm_Z} {X : mm_T} {k w mc ms d n N : Nat} {Q : mm_O → mm_H → Prop} {xs : Nat → Int32} {L : Nat} (hX : scX Z X xs L) (hQ : ∀ o a b c, Q o (a, c) → Q o (b, c)) (C : mm_Ok Z qL_law X) (hRm : mt_R X = mm_rm d mc ms) (hd : 200 ≤ d) (hn : n + 4 < 1000000) (hk : k + 4 ≤ mc) (hw : w + 24 ≤ ms) {k23 : Nat → Nat → Nat → Int32 → mm_C → mR Int32} (hk23 : ∀ (v1 : Nat) (v2 : Nat) (v3 : Nat) (v4 : Int32) (c : mm_C) (k1 w1 n1 : Nat), k ≤ k1 → k1 ≤ k + 2 → w ≤ w1 → w1 ≤ w + 12 → n ≤ n1 → n1 ≤ n + 3 → hO 0 ovI n1 (k23 v1 v2 v3 v4 c) Q → mG Z qL_law X k1 w1 mc ms Q (23, [(0, .ref 4000000), (1, .ref v1), (2, .ref v2), (3, .ref v3), (4, .int v4)], [], (n1, c))) {v1 : Nat} {v2 : Nat} {v3 : Nat} {v4 : Int32} {c : mm_C} (hf : hO 0 ovI n (bL_law_333 N xs L  k23 v1 v2 v3 v4 c) Q) : mG Z qL_law X k w mc ms Q (333, [(0, .ref 4000000), (1, .ref v1), (2, .ref v2), (3, .ref v3), (4, .int v4)], [], (n, c)) := by
  unfold bL_law_333 at hf
  refine mg_aload_n C rfl rfl ?_
  refine mh_cVI (M' := qX11_fault) C rfl rfl aX11_fault iX11_fault sX11_fault hRm (by omega) (by decide) (by omega) (by omega) rfl rfl rfl (Nat.le_of_ble_eq_true rfl) rfl hf (fun hs => wX11_fault (by omega) (by omega) hs) (fun r1 c2 hf => ?_)
  refine mg_aload_n C rfl rfl ?_
  refine mh_cVI (M' := qX12_fault) C rfl rfl aX12_fault iX12_fault sX12_fault hRm (by omega) (by decide) (by omega) (by omega) rfl rfl rfl (Nat.le_of_ble_eq_true rfl) rfl hf (fun hs => wX12_fault (by omega) (by omega) hs) (fun r3 c4 hf => ?_)
  refine mh_icmp_eq C rfl hf (fun e_341 hf => ?_) (fun e_341 hf => ?_)
  · refine mg_iinc (lv' := [(0, .ref 4000000), (1, .ref v1), (2, .ref v2), (3, .ref v3), (4, .int (v4 + 6))]) C rfl (Nat.le_of_ble_eq_true rfl) rfl (show _ + Int32.ofInt 6 = _ + 6 by congr 1) rfl ?_
    refine mg_goto C rfl ?_
    exact hk23 _ _ _ _ _ _ _ _ (by omega) (by omega) (by omega) (by omega) (by omega) (by omega) hf
  · refine mg_iconst (v := 0) C rfl (by decide) ?_
    exact mh_zreturn C rfl (by omega) (by omega) rfl hf
def bL_law_346 (N : Nat) (xs : Nat → Int32) (L : Nat)  (k23 : Nat → Nat → Nat → Int32 → mm_C → mR Int32) (v1 : Nat) (v2 : Nat) (v3 : Nat) (v4 : Int32) (c : mm_C) : mR Int32 :=
  Option.bind (sc xs L (v4 + (1 : Int32))) fun x1 => cS (fL_count N v1 x1 v3 c) fun r2 c3 => Option.bind (sc xs L (v4 + (1 : Int32))) fun x4 => cV 12 v2 c3 (fX12_count N v2 x4 c3) fun r5 c6 => cV 12 v2 c6 (fX12_thrown N v2 c6) fun r7 c8 => if r7 = r2 then (if ¬ r2 = 0 then (k23 v1 v2 v3 (v4 + 6) c8) else (Option.bind (aL c8 v3 (0 : Int32)) fun x9 => if (lg_cmp x9 r5.toInt64) = 0 then (k23 v1 v2 v3 (v4 + 6) c8) else (rZ (0 : Int32) c8))) else (rZ (0 : Int32) c8)
set_option maxRecDepth 100000 in
theorem wL_law_346 {Z : mm_Z} {X : mm_T} {k w mc ms d n N : Nat} {Q : mm_O → mm_H → Prop} {xs : Nat → Int32} {L : Nat} (hX : scX Z X xs L) (hQ : ∀ o a b c, Q o (a, c) → Q o (b, c)) (C : mm_Ok Z qL_law X) (hRm : mt_R X = mm_rm d mc ms) (hd : 200 ≤ d) (hn : n + 4 < 1000000) (hk : k + 4 ≤ mc) (hw : w + 24 ≤ ms) {k23 : Nat → Nat → Nat → Int32 → mm_C → mR Int32} (hk23 : ∀ (v1 : Nat) (v2 : Nat) (v3 : Nat) (v4 : Int32) (c : mm_C) (k1 w1 n1 : Nat), k ≤ k1 → k1 ≤ k + 2 → w ≤ w1 → w1 ≤ w + 12 → n ≤ n1 → n1 ≤ n + 3 → hO 0 ovI n1 (k23 v1 v2 v3 v4 c) Q → mG Z qL_law X k1 w1 mc ms Q (23, [(0, .ref 4000000), (1, .ref v1), (2, .ref v2), (3, .ref v3), (4, .int v4)], [], (n1, c))) {v1 : Nat} {v2 : Nat} {v3 : Nat} {v4 : Int32} {c : mm_C} (hf : hO 0 ovI n (bL_law_346 N xs L  k23 v1 v2 v3 v4 c) Q) : mG Z qL_law X k w mc ms Q (346, [(0, .ref 4000000), (1, .ref v1), (2, .ref v2), (3, .ref v3), (4, .int v4)], [], (n, c)) := by
  unfold bL_law_346 at hf
  refine mg_aload_n C rfl rfl ?_
  refine mg_aload_n C rfl rfl ?_
  refine mg_iload C rfl rfl ?_
  refine mg_iconst (v := 1) C rfl (by decide) ?_
  refine mg_iadd C rfl ?_
  refine mh_sc hX C rfl hf (fun x1 hf => ?_)
  refine mg_aload_n C rfl rfl ?_
  refine mu_cS (kc := 1) (tn := 1) (M' := qL_count) C rfl rfl awL_count tL_count hRm (by omega) (by decide) (by omega) (by omega) rfl rfl (Nat.le_of_ble_eq_true rfl) rfl hQ hf (fun hs => wL_count (by omega) (by omega) hs) (fun r2 c3 n hn1 hn2 hf => ?_)
  refine mg_istore (lv' := [(0, .ref 4000000), (1, .ref v1), (2, .ref v2), (3, .ref v3), (4, .int v4), (5, .int r2)]) C rfl (Nat.le_of_ble_eq_true rfl) rfl ?_
  refine mg_aload_n C rfl rfl ?_
  refine mg_aload_n C rfl rfl ?_
  refine mg_iload C rfl rfl ?_
  refine mg_iconst (v := 1) C rfl (by decide) ?_
  refine mg_iadd C rfl ?_
  refine mh_sc hX C rfl hf (fun x4 hf => ?_)
  refine mh_cVI (M' := qX12_count) C rfl rfl aX12_count iX12_count sX12_count hRm (by omega) (by decide) (by omega) (by omega) rfl rfl rfl (Nat.le_of_ble_eq_true rfl) rfl hf (fun hs => wX12_count (by omega) (by omega) hs) (fun r5 c6 hf => ?_)
  refine mg_istore (lv' := [(0, .ref 4000000), (1, .ref v1), (2, .ref v2), (3, .ref v3), (4, .int v4), (5, .int r2), (6, .int r5)]) C rfl (Nat.le_of_ble_eq_true rfl) rfl ?_
  refine mg_aload_n C rfl rfl ?_
  refine mh_cVI (M' := qX12_thrown) C rfl rfl aX12_thrown iX12_thrown sX12_thrown hRm (by omega) (by decide) (by omega) (by omega) rfl rfl rfl (Nat.le_of_ble_eq_true rfl) rfl hf (fun hs => wX12_thrown (by omega) (by omega) hs) (fun r7 c8 hf => ?_)
  refine mg_iload C rfl rfl ?_
  refine mh_icmp_eq C rfl hf (fun e_377 hf => ?_) (fun e_377 hf => ?_)
  · refine mg_iload C rfl rfl ?_
    refine mh_if_ne C rfl hf (fun e_384 hf => ?_) (fun e_384 hf => ?_)
    · refine mg_goto C rfl ?_
      refine mg_iinc (lv' := [(0, .ref 4000000), (1, .ref v1), (2, .ref v2), (3, .ref v3), (4, .int (v4 + 6)), (5, .int r2), (6, .int r5)]) C rfl (Nat.le_of_ble_eq_true rfl) rfl (show _ + Int32.ofInt 6 = _ + 6 by congr 1) rfl ?_
      refine mg_goto C rfl ?_
      refine mg_sub (lv' := [(0, .ref 4000000), (1, .ref v1), (2, .ref v2), (3, .ref v3), (4, .int (v4 + 6))]) (by simp) ?_
      exact hk23 _ _ _ _ _ _ _ _ (by omega) (by omega) (by omega) (by omega) (by omega) (by omega) hf
    · refine mg_aload_n C rfl rfl ?_
      refine mg_iconst (v := 0) C rfl (by decide) ?_
      refine mh_aL C rfl hf (fun x9 hf => ?_)
      refine mg_iload C rfl rfl ?_
      refine mg_i2l C rfl ?_
      refine mg_lcmp C rfl ?_
      refine mh_if_eq C rfl hf (fun e_394 hf => ?_) (fun e_394 hf => ?_)
      · refine mg_goto C rfl ?_
        refine mg_iinc (lv' := [(0, .ref 4000000), (1, .ref v1), (2, .ref v2), (3, .ref v3), (4, .int (v4 + 6)), (5, .int r2), (6, .int r5)]) C rfl (Nat.le_of_ble_eq_true rfl) rfl (show _ + Int32.ofInt 6 = _ + 6 by congr 1) rfl ?_
        refine mg_goto C rfl ?_
        refine mg_sub (lv' := [(0, .ref 4000000), (1, .ref v1), (2, .ref v2), (3, .ref v3), (4, .int (v4 + 6))]) (by simp) ?_
        exact hk23 _ _ _ _ _ _ _ _ (by omega) (by omega) (by omega) (by omega) (by omega) (by omega) hf
      · refine mg_iconst (v := 0) C rfl (by decide) ?_
        exact mh_zreturn C rfl (by omega) (by omega) rfl hf
  · refine mg_iconst (v := 0) C rfl (by decide) ?_
    exact mh_zreturn C rfl (by omega) (by omega) rfl hf
def bL_law_402 (N : Nat) (xs : Nat → Int32) (L : Nat)  (k23 : Nat → Nat → Nat → Int32 → mm_C → mR Int32) (v1 : Nat) (v2 : Nat) (v3 : Nat) (v4 : Int32) (c : mm_C) : mR Int32 :=
  Option.bind (sc xs L (v4 + (1 : Int32))) fun x1 => Option.bind (sc xs L (v4 + (2 : Int32))) fun x2 => cS (fL_shot N v1 x1 x2 v3 c) fun r3 c4 => Option.bind (sc xs L (v4 + (1 : Int32))) fun x5 => Option.bind (sc xs L (v4 + (2 : Int32))) fun x6 => cV 12 v2 c4 (fX12_shot N v2 x5 x6 c4) fun r7 c8 => cV 12 v2 c8 (fX12_thrown N v2 c8) fun r9 c10 => if r9 = r3 then (if ¬ r3 = 0 then (k23 v1 v2 v3 (v4 + 6) c10) else (Option.bind (aL c10 v3 (0 : Int32)) fun x11 => if (lg_cmp x11 r7.toInt64) = 0 then (k23 v1 v2 v3 (v4 + 6) c10) else (rZ (0 : Int32) c10))) else (rZ (0 : Int32) c10)
set_option maxRecDepth 100000 in
theorem wL_law_402 {Z : mm_Z} {X : mm_T} {k w mc ms d n N : Nat} {Q : mm_O → mm_H → Prop} {xs : Nat → Int32} {L : Nat} (hX : scX Z X xs L) (hQ : ∀ o a b c, Q o (a, c) → Q o (b, c)) (C : mm_Ok Z qL_law X) (hRm : mt_R X = mm_rm d mc ms) (hd : 200 ≤ d) (hn : n + 4 < 1000000) (hk : k + 4 ≤ mc) (hw : w + 24 ≤ ms) {k23 : Nat → Nat → Nat → Int32 → mm_C → mR Int32} (hk23 : ∀ (v1 : Nat) (v2 : Nat) (v3 : Nat) (v4 : Int32) (c : mm_C) (k1 w1 n1 : Nat), k ≤ k1 → k1 ≤ k + 2 → w ≤ w1 → w1 ≤ w + 12 → n ≤ n1 → n1 ≤ n + 3 → hO 0 ovI n1 (k23 v1 v2 v3 v4 c) Q → mG Z qL_law X k1 w1 mc ms Q (23, [(0, .ref 4000000), (1, .ref v1), (2, .ref v2), (3, .ref v3), (4, .int v4)], [], (n1, c))) {v1 : Nat} {v2 : Nat} {v3 : Nat} {v4 : Int32} {c : mm_C} (hf : hO 0 ovI n (bL_law_402 N xs L  k23 v1 v2 v3 v4 c) Q) : mG Z qL_law X k w mc ms Q (402, [(0, .ref 4000000), (1, .ref v1), (2, .ref v2), (3, .ref v3), (4, .int v4)], [], (n, c)) := by
  unfold bL_law_402 at hf
  refine mg_aload_n C rfl rfl ?_
  refine mg_aload_n C rfl rfl ?_
  refine mg_iload C rfl rfl ?_
  refine mg_iconst (v := 1) C rfl (by decide) ?_
  refine mg_iadd C rfl ?_
  refine mh_sc hX C rfl hf (fun x1 hf => ?_)
  refine mg_aload_n C rfl rfl ?_
  refine mg_iload C rfl rfl ?_
  refine mg_iconst (v := 2) C rfl (by decide) ?_
  refine mg_iadd C rfl ?_
  refine mh_sc hX C rfl hf (fun x2 hf => ?_)
  refine mg_aload_n C rfl rfl ?_
  refine mu_cS (kc := 1) (tn := 1) (M' := qL_shot) C rfl rfl awL_shot tL_shot hRm (by omega) (by decide) (by omega) (by omega) rfl rfl (Nat.le_of_ble_eq_true rfl) rfl hQ hf (fun hs => wL_shot (by omega) (by omega) hs) (fun r3 c4 n hn1 hn2 hf => ?_)
  refine mg_istore (lv' := [(0, .ref 4000000), (1, .ref v1), (2, .ref v2), (3, .ref v3), (4, .int v4), (5, .int r3)]) C rfl (Nat.le_of_ble_eq_true rfl) rfl ?_
  refine mg_aload_n C rfl rfl ?_
  refine mg_aload_n C rfl rfl ?_
  refine mg_iload C rfl rfl ?_
  refine mg_iconst (v := 1) C rfl (by decide) ?_
  refine mg_iadd C rfl ?_
  refine mh_sc hX C rfl hf (fun x5 hf => ?_)
  refine mg_aload_n C rfl rfl ?_
  refine mg_iload C rfl rfl ?_
  refine mg_iconst (v := 2) C rfl (by decide) ?_
  refine mg_iadd C rfl ?_
  refine mh_sc hX C rfl hf (fun x6 hf => ?_)
  refine mh_cVI (M' := qX12_shot) C rfl rfl aX12_shot iX12_shot sX12_shot hRm (by omega) (by decide) (by omega) (by omega) rfl rfl rfl (Nat.le_of_ble_eq_true rfl) rfl hf (fun hs => wX12_shot (by omega) (by omega) hs) (fun r7 c8 hf => ?_)
  refine mg_istore (lv' := [(0, .ref 4000000), (1, .ref v1), (2, .ref v2), (3, .ref v3), (4, .int v4), (5, .int r3), (6, .int r7)]) C rfl (Nat.le_of_ble_eq_true rfl) rfl ?_
  refine mg_aload_n C rfl rfl ?_
  refine mh_cVI (M' := qX12_thrown) C rfl rfl aX12_thrown iX12_thrown sX12_thrown hRm (by omega) (by decide) (by omega) (by omega) rfl rfl rfl (Nat.le_of_ble_eq_true rfl) rfl hf (fun hs => wX12_thrown (by omega) (by omega) hs) (fun r9 c10 hf => ?_)
  refine mg_iload C rfl rfl ?_
  refine mh_icmp_eq C rfl hf (fun e_445 hf => ?_) (fun e_445 hf => ?_)
  · refine mg_iload C rfl rfl ?_
    refine mh_if_ne C rfl hf (fun e_452 hf => ?_) (fun e_452 hf => ?_)
    · refine mg_goto C rfl ?_
      refine mg_iinc (lv' := [(0, .ref 4000000), (1, .ref v1), (2, .ref v2), (3, .ref v3), (4, .int (v4 + 6)), (5, .int r3), (6, .int r7)]) C rfl (Nat.le_of_ble_eq_true rfl) rfl (show _ + Int32.ofInt 6 = _ + 6 by congr 1) rfl ?_
      refine mg_goto C rfl ?_
      refine mg_sub (lv' := [(0, .ref 4000000), (1, .ref v1), (2, .ref v2), (3, .ref v3), (4, .int (v4 + 6))]) (by simp) ?_
      exact hk23 _ _ _ _ _ _ _ _ (by omega) (by omega) (by omega) (by omega) (by omega) (by omega) hf
    · refine mg_aload_n C rfl rfl ?_
      refine mg_iconst (v := 0) C rfl (by decide) ?_
      refine mh_aL C rfl hf (fun x11 hf => ?_)
      refine mg_iload C rfl rfl ?_
      refine mg_i2l C rfl ?_
      refine mg_lcmp C rfl ?_
      refine mh_if_eq C rfl hf (fun e_462 hf => ?_) (fun e_462 hf => ?_)
      · refine mg_goto C rfl ?_
        refine mg_iinc (lv' := [(0, .ref 4000000), (1, .ref v1), (2, .ref v2), (3, .ref v3), (4, .int (v4 + 6)), (5, .int r3), (6, .int r7)]) C rfl (Nat.le_of_ble_eq_true rfl) rfl (show _ + Int32.ofInt 6 = _ + 6 by congr 1) rfl ?_
        refine mg_goto C rfl ?_
        refine mg_sub (lv' := [(0, .ref 4000000), (1, .ref v1), (2, .ref v2), (3, .ref v3), (4, .int (v4 + 6))]) (by simp) ?_
        exact hk23 _ _ _ _ _ _ _ _ (by omega) (by omega) (by omega) (by omega) (by omega) (by omega) hf
      · refine mg_iconst (v := 0) C rfl (by decide) ?_
        exact mh_zreturn C rfl (by omega) (by omega) rfl hf
  · refine mg_iconst (v := 0) C rfl (by decide) ?_
    exact mh_zreturn C rfl (by omega) (by omega) rfl hf
def bL_law_470 (N : Nat) (xs : Nat → Int32) (L : Nat)  (k23 : Nat → Nat → Nat → Int32 → mm_C → mR Int32) (v1 : Nat) (v2 : Nat) (v3 : Nat) (v4 : Int32) (c : mm_C) : mR Int32 :=
  Option.bind (sc xs L (v4 + (1 : Int32))) fun x1 => Option.bind (sc xs L (v4 + (2 : Int32))) fun x2 => cS (fL_sky N v1 x1 x2 v3 c) fun r3 c4 => Option.bind (sc xs L (v4 + (1 : Int32))) fun x5 => Option.bind (sc xs L (v4 + (2 : Int32))) fun x6 => cV 12 v2 c4 (fX12_sky N v2 x5 x6 c4) fun r7 c8 => cV 12 v2 c8 (fX12_thrown N v2 c8) fun r9 c10 => if r9 = r3 then (if ¬ r3 = 0 then (k23 v1 v2 v3 (v4 + 6) c10) else (Option.bind (aL c10 v3 (0 : Int32)) fun x11 => if (lg_cmp x11 r7.toInt64) = 0 then (k23 v1 v2 v3 (v4 + 6) c10) else (rZ (0 : Int32) c10))) else (rZ (0 : Int32) c10)
set_option maxRecDepth 100000 in
theorem wL_law_470 {Z : mm_Z} {X : mm_T} {k w mc ms d n N : Nat} {Q : mm_O → mm_H → Prop} {xs : Nat → Int32} {L : Nat} (hX : scX Z X xs L) (hQ : ∀ o a b c, Q o (a, c) → Q o (b, c)) (C : mm_Ok Z qL_law X) (hRm : mt_R X = mm_rm d mc ms) (hd : 200 ≤ d) (hn : n + 4 < 1000000) (hk : k + 4 ≤ mc) (hw : w + 24 ≤ ms) {k23 : Nat → Nat → Nat → Int32 → mm_C → mR Int32} (hk23 : ∀ (v1 : Nat) (v2 : Nat) (v3 : Nat) (v4 : Int32) (c : mm_C) (k1 w1 n1 : Nat), k ≤ k1 → k1 ≤ k + 2 → w ≤ w1 → w1 ≤ w + 12 → n ≤ n1 → n1 ≤ n + 3 → hO 0 ovI n1 (k23 v1 v2 v3 v4 c) Q → mG Z qL_law X k1 w1 mc ms Q (23, [(0, .ref 4000000), (1, .ref v1), (2, .ref v2), (3, .ref v3), (4, .int v4)], [], (n1, c))) {v1 : Nat} {v2 : Nat} {v3 : Nat} {v4 : Int32} {c : mm_C} (hf : hO 0 ovI n (bL_law_470 N xs L  k23 v1 v2 v3 v4 c) Q) : mG Z qL_law X k w mc ms Q (470, [(0, .ref 4000000), (1, .ref v1), (2, .ref v2), (3, .ref v3), (4, .int v4)], [], (n, c)) := by
  unfold bL_law_470 at hf
  refine mg_aload_n C rfl rfl ?_
  refine mg_aload_n C rfl rfl ?_
  refine mg_iload C rfl rfl ?_
  refine mg_iconst (v := 1) C rfl (by decide) ?_
  refine mg_iadd C rfl ?_
  refine mh_sc hX C rfl hf (fun x1 hf => ?_)
  refine mg_aload_n C rfl rfl ?_
  refine mg_iload C rfl rfl ?_
  refine mg_iconst (v := 2) C rfl (by decide) ?_
  refine mg_iadd C rfl ?_
  refine mh_sc hX C rfl hf (fun x2 hf => ?_)
  refine mg_aload_n C rfl rfl ?_
  refine mu_cS (kc := 1) (tn := 1) (M' := qL_sky) C rfl rfl awL_sky tL_sky hRm (by omega) (by decide) (by omega) (by omega) rfl rfl (Nat.le_of_ble_eq_true rfl) rfl hQ hf (fun hs => wL_sky (by omega) (by omega) hs) (fun r3 c4 n hn1 hn2 hf => ?_)
  refine mg_istore (lv' := [(0, .ref 4000000), (1, .ref v1), (2, .ref v2), (3, .ref v3), (4, .int v4), (5, .int r3)]) C rfl (Nat.le_of_ble_eq_true rfl) rfl ?_
  refine mg_aload_n C rfl rfl ?_
  refine mg_aload_n C rfl rfl ?_
  refine mg_iload C rfl rfl ?_
  refine mg_iconst (v := 1) C rfl (by decide) ?_
  refine mg_iadd C rfl ?_
  refine mh_sc hX C rfl hf (fun x5 hf => ?_)
  refine mg_aload_n C rfl rfl ?_
  refine mg_iload C rfl rfl ?_
  refine mg_iconst (v := 2) C rfl (by decide) ?_
  refine mg_iadd C rfl ?_
  refine mh_sc hX C rfl hf (fun x6 hf => ?_)
  refine mh_cVI (M' := qX12_sky) C rfl rfl aX12_sky iX12_sky sX12_sky hRm (by omega) (by decide) (by omega) (by omega) rfl rfl rfl (Nat.le_of_ble_eq_true rfl) rfl hf (fun hs => wX12_sky (by omega) (by omega) hs) (fun r7 c8 hf => ?_)
  refine mg_istore (lv' := [(0, .ref 4000000), (1, .ref v1), (2, .ref v2), (3, .ref v3), (4, .int v4), (5, .int r3), (6, .int r7)]) C rfl (Nat.le_of_ble_eq_true rfl) rfl ?_
  refine mg_aload_n C rfl rfl ?_
  refine mh_cVI (M' := qX12_thrown) C rfl rfl aX12_thrown iX12_thrown sX12_thrown hRm (by omega) (by decide) (by omega) (by omega) rfl rfl rfl (Nat.le_of_ble_eq_true rfl) rfl hf (fun hs => wX12_thrown (by omega) (by omega) hs) (fun r9 c10 hf => ?_)
  refine mg_iload C rfl rfl ?_
  refine mh_icmp_eq C rfl hf (fun e_513 hf => ?_) (fun e_513 hf => ?_)
  · refine mg_iload C rfl rfl ?_
    refine mh_if_ne C rfl hf (fun e_520 hf => ?_) (fun e_520 hf => ?_)
    · refine mg_goto C rfl ?_
      refine mg_iinc (lv' := [(0, .ref 4000000), (1, .ref v1), (2, .ref v2), (3, .ref v3), (4, .int (v4 + 6)), (5, .int r3), (6, .int r7)]) C rfl (Nat.le_of_ble_eq_true rfl) rfl (show _ + Int32.ofInt 6 = _ + 6 by congr 1) rfl ?_
      refine mg_goto C rfl ?_
      refine mg_sub (lv' := [(0, .ref 4000000), (1, .ref v1), (2, .ref v2), (3, .ref v3), (4, .int (v4 + 6))]) (by simp) ?_
      exact hk23 _ _ _ _ _ _ _ _ (by omega) (by omega) (by omega) (by omega) (by omega) (by omega) hf
    · refine mg_aload_n C rfl rfl ?_
      refine mg_iconst (v := 0) C rfl (by decide) ?_
      refine mh_aL C rfl hf (fun x11 hf => ?_)
      refine mg_iload C rfl rfl ?_
      refine mg_i2l C rfl ?_
      refine mg_lcmp C rfl ?_
      refine mh_if_eq C rfl hf (fun e_530 hf => ?_) (fun e_530 hf => ?_)
      · refine mg_goto C rfl ?_
        refine mg_iinc (lv' := [(0, .ref 4000000), (1, .ref v1), (2, .ref v2), (3, .ref v3), (4, .int (v4 + 6)), (5, .int r3), (6, .int r7)]) C rfl (Nat.le_of_ble_eq_true rfl) rfl (show _ + Int32.ofInt 6 = _ + 6 by congr 1) rfl ?_
        refine mg_goto C rfl ?_
        refine mg_sub (lv' := [(0, .ref 4000000), (1, .ref v1), (2, .ref v2), (3, .ref v3), (4, .int (v4 + 6))]) (by simp) ?_
        exact hk23 _ _ _ _ _ _ _ _ (by omega) (by omega) (by omega) (by omega) (by omega) (by omega) hf
      · refine mg_iconst (v := 0) C rfl (by decide) ?_
        exact mh_zreturn C rfl (by omega) (by omega) rfl hf
  · refine mg_iconst (v := 0) C rfl (by decide) ?_
    exact mh_zreturn C rfl (by omega) (by omega) rfl hf
def bL_law_538 (N : Nat) (xs : Nat → Int32) (L : Nat)  (k23 : Nat → Nat → Nat → Int32 → mm_C → mR Int32) (v1 : Nat) (v2 : Nat) (v3 : Nat) (v4 : Int32) (c : mm_C) : mR Int32 :=
  Option.bind (sc xs L (v4 + (1 : Int32))) fun x1 => Option.bind (sc xs L (v4 + (2 : Int32))) fun x2 => cS (fL_why N v1 x1 x2 v3 c) fun r3 c4 => Option.bind (sc xs L (v4 + (1 : Int32))) fun x5 => Option.bind (sc xs L (v4 + (2 : Int32))) fun x6 => cV 12 v2 c4 (fX12_why N v2 x5 x6 c4) fun r7 c8 => cV 12 v2 c8 (fX12_thrown N v2 c8) fun r9 c10 => if r9 = r3 then (if ¬ r3 = 0 then (k23 v1 v2 v3 (v4 + 6) c10) else (Option.bind (aL c10 v3 (0 : Int32)) fun x11 => if (lg_cmp x11 r7.toInt64) = 0 then (k23 v1 v2 v3 (v4 + 6) c10) else (rZ (0 : Int32) c10))) else (rZ (0 : Int32) c10)
set_option maxRecDepth 100000 in
theorem wL_law_538 {Z : mm_Z} {X : mm_T} {k w mc ms d n N : Nat} {Q : mm_O → mm_H → Prop} {xs : Nat → Int32} {L : Nat} (hX : scX Z X xs L) (hQ : ∀ o a b c, Q o (a, c) → Q o (b, c)) (C : mm_Ok Z qL_law X) (hRm : mt_R X = mm_rm d mc ms) (hd : 200 ≤ d) (hn : n + 4 < 1000000) (hk : k + 4 ≤ mc) (hw : w + 24 ≤ ms) {k23 : Nat → Nat → Nat → Int32 → mm_C → mR Int32} (hk23 : ∀ (v1 : Nat) (v2 : Nat) (v3 : Nat) (v4 : Int32) (c : mm_C) (k1 w1 n1 : Nat), k ≤ k1 → k1 ≤ k + 2 → w ≤ w1 → w1 ≤ w + 12 → n ≤ n1 → n1 ≤ n + 3 → hO 0 ovI n1 (k23 v1 v2 v3 v4 c) Q → mG Z qL_law X k1 w1 mc ms Q (23, [(0, .ref 4000000), (1, .ref v1), (2, .ref v2), (3, .ref v3), (4, .int v4)], [], (n1, c))) {v1 : Nat} {v2 : Nat} {v3 : Nat} {v4 : Int32} {c : mm_C} (hf : hO 0 ovI n (bL_law_538 N xs L  k23 v1 v2 v3 v4 c) Q) : mG Z qL_law X k w mc ms Q (538, [(0, .ref 4000000), (1, .ref v1), (2, .ref v2), (3, .ref v3), (4, .int v4)], [], (n, c)) := by
  unfold bL_law_538 at hf
  refine mg_aload_n C rfl rfl ?_
  refine mg_aload_n C rfl rfl ?_
  refine mg_iload C rfl rfl ?_
  refine mg_iconst (v := 1) C rfl (by decide) ?_
  refine mg_iadd C rfl ?_
  refine mh_sc hX C rfl hf (fun x1 hf => ?_)
  refine mg_aload_n C rfl rfl ?_
  refine mg_iload C rfl rfl ?_
  refine mg_iconst (v := 2) C rfl (by decide) ?_
  refine mg_iadd C rfl ?_
  refine mh_sc hX C rfl hf (fun x2 hf => ?_)
  refine mg_aload_n C rfl rfl ?_
  refine mu_cS (kc := 1) (tn := 1) (M' := qL_why) C rfl rfl awL_why tL_why hRm (by omega) (by decide) (by omega) (by omega) rfl rfl (Nat.le_of_ble_eq_true rfl) rfl hQ hf (fun hs => wL_why (by omega) (by omega) hs) (fun r3 c4 n hn1 hn2 hf => ?_)
  refine mg_istore (lv' := [(0, .ref 4000000), (1, .ref v1), (2, .ref v2), (3, .ref v3), (4, .int v4), (5, .int r3)]) C rfl (Nat.le_of_ble_eq_true rfl) rfl ?_
  refine mg_aload_n C rfl rfl ?_
  refine mg_aload_n C rfl rfl ?_
  refine mg_iload C rfl rfl ?_
  refine mg_iconst (v := 1) C rfl (by decide) ?_
  refine mg_iadd C rfl ?_
  refine mh_sc hX C rfl hf (fun x5 hf => ?_)
  refine mg_aload_n C rfl rfl ?_
  refine mg_iload C rfl rfl ?_
  refine mg_iconst (v := 2) C rfl (by decide) ?_
  refine mg_iadd C rfl ?_
  refine mh_sc hX C rfl hf (fun x6 hf => ?_)
  refine mh_cVI (M' := qX12_why) C rfl rfl aX12_why iX12_why sX12_why hRm (by omega) (by decide) (by omega) (by omega) rfl rfl rfl (Nat.le_of_ble_eq_true rfl) rfl hf (fun hs => wX12_why (by omega) (by omega) hs) (fun r7 c8 hf => ?_)
  refine mg_istore (lv' := [(0, .ref 4000000), (1, .ref v1), (2, .ref v2), (3, .ref v3), (4, .int v4), (5, .int r3), (6, .int r7)]) C rfl (Nat.le_of_ble_eq_true rfl) rfl ?_
  refine mg_aload_n C rfl rfl ?_
  refine mh_cVI (M' := qX12_thrown) C rfl rfl aX12_thrown iX12_thrown sX12_thrown hRm (by omega) (by decide) (by omega) (by omega) rfl rfl rfl (Nat.le_of_ble_eq_true rfl) rfl hf (fun hs => wX12_thrown (by omega) (by omega) hs) (fun r9 c10 hf => ?_)
  refine mg_iload C rfl rfl ?_
  refine mh_icmp_eq C rfl hf (fun e_581 hf => ?_) (fun e_581 hf => ?_)
  · refine mg_iload C rfl rfl ?_
    refine mh_if_ne C rfl hf (fun e_588 hf => ?_) (fun e_588 hf => ?_)
    · refine mg_goto C rfl ?_
      refine mg_iinc (lv' := [(0, .ref 4000000), (1, .ref v1), (2, .ref v2), (3, .ref v3), (4, .int (v4 + 6)), (5, .int r3), (6, .int r7)]) C rfl (Nat.le_of_ble_eq_true rfl) rfl (show _ + Int32.ofInt 6 = _ + 6 by congr 1) rfl ?_
      refine mg_goto C rfl ?_
      refine mg_sub (lv' := [(0, .ref 4000000), (1, .ref v1), (2, .ref v2), (3, .ref v3), (4, .int (v4 + 6))]) (by simp) ?_
      exact hk23 _ _ _ _ _ _ _ _ (by omega) (by omega) (by omega) (by omega) (by omega) (by omega) hf
    · refine mg_aload_n C rfl rfl ?_
      refine mg_iconst (v := 0) C rfl (by decide) ?_
      refine mh_aL C rfl hf (fun x11 hf => ?_)
      refine mg_iload C rfl rfl ?_
      refine mg_i2l C rfl ?_
      refine mg_lcmp C rfl ?_
      refine mh_if_eq C rfl hf (fun e_598 hf => ?_) (fun e_598 hf => ?_)
      · refine mg_goto C rfl ?_
        refine mg_iinc (lv' := [(0, .ref 4000000), (1, .ref v1), (2, .ref v2), (3, .ref v3), (4, .int (v4 + 6)), (5, .int r3), (6, .int r7)]) C rfl (Nat.le_of_ble_eq_true rfl) rfl (show _ + Int32.ofInt 6 = _ + 6 by congr 1) rfl ?_
        refine mg_goto C rfl ?_
        refine mg_sub (lv' := [(0, .ref 4000000), (1, .ref v1), (2, .ref v2), (3, .ref v3), (4, .int (v4 + 6))]) (by simp) ?_
        exact hk23 _ _ _ _ _ _ _ _ (by omega) (by omega) (by omega) (by omega) (by omega) (by omega) hf
      · refine mg_iconst (v := 0) C rfl (by decide) ?_
        exact mh_zreturn C rfl (by omega) (by omega) rfl hf
  · refine mg_iconst (v := 0) C rfl (by decide) ?_
    exact mh_zreturn C rfl (by omega) (by omega) rfl hf
def bL_law_606 (N : Nat) (xs : Nat → Int32) (L : Nat)  (k23 : Nat → Nat → Nat → Int32 → mm_C → mR Int32) (v1 : Nat) (v2 : Nat) (v3 : Nat) (v4 : Int32) (c : mm_C) : mR Int32 :=
  Option.bind (sc xs L (v4 + (1 : Int32))) fun x1 => cS (fL_ready N v1 x1 v3 c) fun r2 c3 => Option.bind (sc xs L (v4 + (1 : Int32))) fun x4 => cV 12 v2 c3 (fX12_ready N v2 x4 c3) fun r5 c6 => cV 12 v2 c6 (fX12_thrown N v2 c6) fun r7 c8 => if r7 = r2 then (if ¬ r2 = 0 then (k23 v1 v2 v3 (v4 + 6) c8) else (Option.bind (aL c8 v3 (0 : Int32)) fun x9 => if (lg_cmp x9 r5.toInt64) = 0 then (k23 v1 v2 v3 (v4 + 6) c8) else (rZ (0 : Int32) c8))) else (rZ (0 : Int32) c8)
set_option maxRecDepth 100000 in
theorem wL_law_606 {Z : mm_Z} {X : mm_T} {k w mc ms d n N : Nat} {Q : mm_O → mm_H → Prop} {xs : Nat → Int32} {L : Nat} (hX : scX Z X xs L) (hQ : ∀ o a b c, Q o (a, c) → Q o (b, c)) (C : mm_Ok Z qL_law X) (hRm : mt_R X = mm_rm d mc ms) (hd : 200 ≤ d) (hn : n + 4 < 1000000) (hk : k + 4 ≤ mc) (hw : w + 24 ≤ ms) {k23 : Nat → Nat → Nat → Int32 → mm_C → mR Int32} (hk23 : ∀ (v1 : Nat) (v2 : Nat) (v3 : Nat) (v4 : Int32) (c : mm_C) (k1 w1 n1 : Nat), k ≤ k1 → k1 ≤ k + 2 → w ≤ w1 → w1 ≤ w + 12 → n ≤ n1 → n1 ≤ n + 3 → hO 0 ovI n1 (k23 v1 v2 v3 v4 c) Q → mG Z qL_law X k1 w1 mc ms Q (23, [(0, .ref 4000000), (1, .ref v1), (2, .ref v2), (3, .ref v3), (4, .int v4)], [], (n1, c))) {v1 : Nat} {v2 : Nat} {v3 : Nat} {v4 : Int32} {c : mm_C} (hf : hO 0 ovI n (bL_law_606 N xs L  k23 v1 v2 v3 v4 c) Q) : mG Z qL_law X k w mc ms Q (606, [(0, .ref 4000000), (1, .ref v1), (2, .ref v2), (3, .ref v3), (4, .int v4)], [], (n, c)) := by
  unfold bL_law_606 at hf
  refine mg_aload_n C rfl rfl ?_
  refine mg_aload_n C rfl rfl ?_
  refine mg_iload C rfl rfl ?_
  refine mg_iconst (v := 1) C rfl (by decide) ?_
  refine mg_iadd C rfl ?_
  refine mh_sc hX C rfl hf (fun x1 hf => ?_)
  refine mg_aload_n C rfl rfl ?_
  refine mu_cS (kc := 1) (tn := 1) (M' := qL_ready) C rfl rfl awL_ready tL_ready hRm (by omega) (by decide) (by omega) (by omega) rfl rfl (Nat.le_of_ble_eq_true rfl) rfl hQ hf (fun hs => wL_ready (by omega) (by omega) hs) (fun r2 c3 n hn1 hn2 hf => ?_)
  refine mg_istore (lv' := [(0, .ref 4000000), (1, .ref v1), (2, .ref v2), (3, .ref v3), (4, .int v4), (5, .int r2)]) C rfl (Nat.le_of_ble_eq_true rfl) rfl ?_
  refine mg_aload_n C rfl rfl ?_
  refine mg_aload_n C rfl rfl ?_
  refine mg_iload C rfl rfl ?_
  refine mg_iconst (v := 1) C rfl (by decide) ?_
  refine mg_iadd C rfl ?_
  refine mh_sc hX C rfl hf (fun x4 hf => ?_)
  refine mh_cVI (M' := qX12_ready) C rfl rfl aX12_ready iX12_ready sX12_ready hRm (by omega) (by decide) (by omega) (by omega) rfl rfl rfl (Nat.le_of_ble_eq_true rfl) rfl hf (fun hs => wX12_ready (by omega) (by omega) hs) (fun r5 c6 hf => ?_)
  refine mg_istore (lv' := [(0, .ref 4000000), (1, .ref v1), (2, .ref v2), (3, .ref v3), (4, .int v4), (5, .int r2), (6, .int r5)]) C rfl (Nat.le_of_ble_eq_true rfl) rfl ?_
  refine mg_aload_n C rfl rfl ?_
  refine mh_cVI (M' := qX12_thrown) C rfl rfl aX12_thrown iX12_thrown sX12_thrown hRm (by omega) (by decide) (by omega) (by omega) rfl rfl rfl (Nat.le_of_ble_eq_true rfl) rfl hf (fun hs => wX12_thrown (by omega) (by omega) hs) (fun r7 c8 hf => ?_)
  refine mg_iload C rfl rfl ?_
  refine mh_icmp_eq C rfl hf (fun e_637 hf => ?_) (fun e_637 hf => ?_)
  · refine mg_iload C rfl rfl ?_
    refine mh_if_ne C rfl hf (fun e_644 hf => ?_) (fun e_644 hf => ?_)
    · refine mg_goto C rfl ?_
      refine mg_iinc (lv' := [(0, .ref 4000000), (1, .ref v1), (2, .ref v2), (3, .ref v3), (4, .int (v4 + 6)), (5, .int r2), (6, .int r5)]) C rfl (Nat.le_of_ble_eq_true rfl) rfl (show _ + Int32.ofInt 6 = _ + 6 by congr 1) rfl ?_
      refine mg_goto C rfl ?_
      refine mg_sub (lv' := [(0, .ref 4000000), (1, .ref v1), (2, .ref v2), (3, .ref v3), (4, .int (v4 + 6))]) (by simp) ?_
      exact hk23 _ _ _ _ _ _ _ _ (by omega) (by omega) (by omega) (by omega) (by omega) (by omega) hf
    · refine mg_aload_n C rfl rfl ?_
      refine mg_iconst (v := 0) C rfl (by decide) ?_
      refine mh_aL C rfl hf (fun x9 hf => ?_)
      refine mg_iload C rfl rfl ?_
      refine mg_i2l C rfl ?_
      refine mg_lcmp C rfl ?_
      refine mh_if_eq C rfl hf (fun e_654 hf => ?_) (fun e_654 hf => ?_)
      · refine mg_goto C rfl ?_
        refine mg_iinc (lv' := [(0, .ref 4000000), (1, .ref v1), (2, .ref v2), (3, .ref v3), (4, .int (v4 + 6)), (5, .int r2), (6, .int r5)]) C rfl (Nat.le_of_ble_eq_true rfl) rfl (show _ + Int32.ofInt 6 = _ + 6 by congr 1) rfl ?_
        refine mg_goto C rfl ?_
        refine mg_sub (lv' := [(0, .ref 4000000), (1, .ref v1), (2, .ref v2), (3, .ref v3), (4, .int (v4 + 6))]) (by simp) ?_
        exact hk23 _ _ _ _ _ _ _ _ (by omega) (by omega) (by omega) (by omega) (by omega) (by omega) hf
      · refine mg_iconst (v := 0) C rfl (by decide) ?_
        exact mh_zreturn C rfl (by omega) (by omega) rfl hf
  · refine mg_iconst (v := 0) C rfl (by decide) ?_
    exact mh_zreturn C rfl (by omega) (by omega) rfl hf
def bL_law_662 (N : Nat) (xs : Nat → Int32) (L : Nat)  (k23 : Nat → Nat → Nat → Int32 → mm_C → mR Int32) (v1 : Nat) (v2 : Nat) (v3 : Nat) (v4 : Int32) (c : mm_C) : mR Int32 :=
  Option.bind (sc xs L (v4 + (1 : Int32))) fun x1 => cS (fL_edge N v1 x1 v3 c) fun r2 c3 => Option.bind (sc xs L (v4 + (1 : Int32))) fun x4 => cV 12 v2 c3 (fX12_edge N v2 x4 c3) fun r5 c6 => cV 12 v2 c6 (fX12_thrown N v2 c6) fun r7 c8 => if r7 = r2 then (if ¬ r2 = 0 then (k23 v1 v2 v3 (v4 + 6) c8) else (Option.bind (aL c8 v3 (0 : Int32)) fun x9 => if (lg_cmp x9 r5.toInt64) = 0 then (k23 v1 v2 v3 (v4 + 6) c8) else (rZ (0 : Int32) c8))) else (rZ (0 : Int32) c8)
set_option maxRecDepth 100000 in
theorem wL_law_662 {Z : mm_Z} {X : mm_T} {k w mc ms d n N : Nat} {Q : mm_O → mm_H → Prop} {xs : Nat → Int32} {L : Nat} (hX : scX Z X xs L) (hQ : ∀ o a b c, Q o (a, c) → Q o (b, c)) (C : mm_Ok Z qL_law X) (hRm : mt_R X = mm_rm d mc ms) (hd : 200 ≤ d) (hn : n + 4 < 1000000) (hk : k + 4 ≤ mc) (hw : w + 24 ≤ ms) {k23 : Nat → Nat → Nat → Int32 → mm_C → mR Int32} (hk23 : ∀ (v1 : Nat) (v2 : Nat) (v3 : Nat) (v4 : Int32) (c : mm_C) (k1 w1 n1 : Nat), k ≤ k1 → k1 ≤ k + 2 → w ≤ w1 → w1 ≤ w + 12 → n ≤ n1 → n1 ≤ n + 3 → hO 0 ovI n1 (k23 v1 v2 v3 v4 c) Q → mG Z qL_law X k1 w1 mc ms Q (23, [(0, .ref 4000000), (1, .ref v1), (2, .ref v2), (3, .ref v3), (4, .int v4)], [], (n1, c))) {v1 : Nat} {v2 : Nat} {v3 : Nat} {v4 : Int32} {c : mm_C} (hf : hO 0 ovI n (bL_law_662 N xs L  k23 v1 v2 v3 v4 c) Q) : mG Z qL_law X k w mc ms Q (662, [(0, .ref 4000000), (1, .ref v1), (2, .ref v2), (3, .ref v3), (4, .int v4)], [], (n, c)) := by
  unfold bL_law_662 at hf
  refine mg_aload_n C rfl rfl ?_
  refine mg_aload_n C rfl rfl ?_
  refine mg_iload C rfl rfl ?_
  refine mg_iconst (v := 1) C rfl (by decide) ?_
  refine mg_iadd C rfl ?_
  refine mh_sc hX C rfl hf (fun x1 hf => ?_)
  refine mg_aload_n C rfl rfl ?_
  refine mu_cS (kc := 1) (tn := 1) (M' := qL_edge) C rfl rfl awL_edge tL_edge hRm (by omega) (by decide) (by omega) (by omega) rfl rfl (Nat.le_of_ble_eq_true rfl) rfl hQ hf (fun hs => wL_edge (by omega) (by omega) hs) (fun r2 c3 n hn1 hn2 hf => ?_)
  refine mg_istore (lv' := [(0, .ref 4000000), (1, .ref v1), (2, .ref v2), (3, .ref v3), (4, .int v4), (5, .int r2)]) C rfl (Nat.le_of_ble_eq_true rfl) rfl ?_
  refine mg_aload_n C rfl rfl ?_
  refine mg_aload_n C rfl rfl ?_
  refine mg_iload C rfl rfl ?_
  refine mg_iconst (v := 1) C rfl (by decide) ?_
  refine mg_iadd C rfl ?_
  refine mh_sc hX C rfl hf (fun x4 hf => ?_)
  refine mh_cVI (M' := qX12_edge) C rfl rfl aX12_edge iX12_edge sX12_edge hRm (by omega) (by decide) (by omega) (by omega) rfl rfl rfl (Nat.le_of_ble_eq_true rfl) rfl hf (fun hs => wX12_edge (by omega) (by omega) hs) (fun r5 c6 hf => ?_)
  refine mg_istore (lv' := [(0, .ref 4000000), (1, .ref v1), (2, .ref v2), (3, .ref v3), (4, .int v4), (5, .int r2), (6, .int r5)]) C rfl (Nat.le_of_ble_eq_true rfl) rfl ?_
  refine mg_aload_n C rfl rfl ?_
  refine mh_cVI (M' := qX12_thrown) C rfl rfl aX12_thrown iX12_thrown sX12_thrown hRm (by omega) (by decide) (by omega) (by omega) rfl rfl rfl (Nat.le_of_ble_eq_true rfl) rfl hf (fun hs => wX12_thrown (by omega) (by omega) hs) (fun r7 c8 hf => ?_)
  refine mg_iload C rfl rfl ?_
  refine mh_icmp_eq C rfl hf (fun e_693 hf => ?_) (fun e_693 hf => ?_)
  · refine mg_iload C rfl rfl ?_
    refine mh_if_ne C rfl hf (fun e_700 hf => ?_) (fun e_700 hf => ?_)
    · refine mg_goto C rfl ?_
      refine mg_iinc (lv' := [(0, .ref 4000000), (1, .ref v1), (2, .ref v2), (3, .ref v3), (4, .int (v4 + 6)), (5, .int r2), (6, .int r5)]) C rfl (Nat.le_of_ble_eq_true rfl) rfl (show _ + Int32.ofInt 6 = _ + 6 by congr 1) rfl ?_
      refine mg_goto C rfl ?_
      refine mg_sub (lv' := [(0, .ref 4000000), (1, .ref v1), (2, .ref v2), (3, .ref v3), (4, .int (v4 + 6))]) (by simp) ?_
      exact hk23 _ _ _ _ _ _ _ _ (by omega) (by omega) (by omega) (by omega) (by omega) (by omega) hf
    · refine mg_aload_n C rfl rfl ?_
      refine mg_iconst (v := 0) C rfl (by decide) ?_
      refine mh_aL C rfl hf (fun x9 hf => ?_)
      refine mg_iload C rfl rfl ?_
      refine mg_i2l C rfl ?_
      refine mg_lcmp C rfl ?_
      refine mh_if_eq C rfl hf (fun e_710 hf => ?_) (fun e_710 hf => ?_)
      · refine mg_goto C rfl ?_
        refine mg_iinc (lv' := [(0, .ref 4000000), (1, .ref v1), (2, .ref v2), (3, .ref v3), (4, .int (v4 + 6)), (5, .int r2), (6, .int r5)]) C rfl (Nat.le_of_ble_eq_true rfl) rfl (show _ + Int32.ofInt 6 = _ + 6 by congr 1) rfl ?_
        refine mg_goto C rfl ?_
        refine mg_sub (lv' := [(0, .ref 4000000), (1, .ref v1), (2, .ref v2), (3, .ref v3), (4, .int (v4 + 6))]) (by simp) ?_
        exact hk23 _ _ _ _ _ _ _ _ (by omega) (by omega) (by omega) (by omega) (by omega) (by omega) hf
      · refine mg_iconst (v := 0) C rfl (by decide) ?_
        exact mh_zreturn C rfl (by omega) (by omega) rfl hf
  · refine mg_iconst (v := 0) C rfl (by decide) ?_
    exact mh_zreturn C rfl (by omega) (by omega) rfl hf
def bL_law_718 (N : Nat) (xs : Nat → Int32) (L : Nat)  (k23 : Nat → Nat → Nat → Int32 → mm_C → mR Int32) (v1 : Nat) (v2 : Nat) (v3 : Nat) (v4 : Int32) (c : mm_C) : mR Int32 :=
  Option.bind (sc xs L (v4 + (1 : Int32))) fun x1 => cS (fL_take N v1 x1 v3 c) fun r2 c3 => Option.bind (sc xs L (v4 + (1 : Int32))) fun x4 => cV 12 v2 c3 (fX12_take N v2 x4 c3) fun r5 c6 => cV 12 v2 c6 (fX12_thrown N v2 c6) fun r7 c8 => if r7 = r2 then (if ¬ r2 = 0 then (k23 v1 v2 v3 (v4 + 6) c8) else (Option.bind (aL c8 v3 (0 : Int32)) fun x9 => if (lg_cmp x9 r5.toInt64) = 0 then (k23 v1 v2 v3 (v4 + 6) c8) else (rZ (0 : Int32) c8))) else (rZ (0 : Int32) c8)
set_option maxRecDepth 100000 in
theorem wL_law_718 {Z : mm_Z} {X : mm_T} {k w mc ms d n N : Nat} {Q : mm_O → mm_H → Prop} {xs : Nat → Int32} {L : Nat} (hX : scX Z X xs L) (hQ : ∀ o a b c, Q o (a, c) → Q o (b, c)) (C : mm_Ok Z qL_law X) (hRm : mt_R X = mm_rm d mc ms) (hd : 200 ≤ d) (hn : n + 4 < 1000000) (hk : k + 4 ≤ mc) (hw : w + 24 ≤ ms) {k23 : Nat → Nat → Nat → Int32 → mm_C → mR Int32} (hk23 : ∀ (v1 : Nat) (v2 : Nat) (v3 : Nat) (v4 : Int32) (c : mm_C) (k1 w1 n1 : Nat), k ≤ k1 → k1 ≤ k + 2 → w ≤ w1 → w1 ≤ w + 12 → n ≤ n1 → n1 ≤ n + 3 → hO 0 ovI n1 (k23 v1 v2 v3 v4 c) Q → mG Z qL_law X k1 w1 mc ms Q (23, [(0, .ref 4000000), (1, .ref v1), (2, .ref v2), (3, .ref v3), (4, .int v4)], [], (n1, c))) {v1 : Nat} {v2 : Nat} {v3 : Nat} {v4 : Int32} {c : mm_C} (hf : hO 0 ovI n (bL_law_718 N xs L  k23 v1 v2 v3 v4 c) Q) : mG Z qL_law X k w mc ms Q (718, [(0, .ref 4000000), (1, .ref v1), (2, .ref v2), (3, .ref v3), (4, .int v4)], [], (n, c)) := by
  unfold bL_law_718 at hf
  refine mg_aload_n C rfl rfl ?_
  refine mg_aload_n C rfl rfl ?_
  refine mg_iload C rfl rfl ?_
  refine mg_iconst (v := 1) C rfl (by decide) ?_
  refine mg_iadd C rfl ?_
  refine mh_sc hX C rfl hf (fun x1 hf => ?_)
  refine mg_aload_n C rfl rfl ?_
  refine mu_cS (kc := 1) (tn := 1) (M' := qL_take) C rfl rfl awL_take tL_take hRm (by omega) (by decide) (by omega) (by omega) rfl rfl (Nat.le_of_ble_eq_true rfl) rfl hQ hf (fun hs => wL_take (by omega) (by omega) hs) (fun r2 c3 n hn1 hn2 hf => ?_)
  refine mg_istore (lv' := [(0, .ref 4000000), (1, .ref v1), (2, .ref v2), (3, .ref v3), (4, .int v4), (5, .int r2)]) C rfl (Nat.le_of_ble_eq_true rfl) rfl ?_
  refine mg_aload_n C rfl rfl ?_
  refine mg_aload_n C rfl rfl ?_
  refine mg_iload C rfl rfl ?_
  refine mg_iconst (v := 1) C rfl (by decide) ?_
  refine mg_iadd C rfl ?_
  refine mh_sc hX C rfl hf (fun x4 hf => ?_)
  refine mh_cVI (M' := qX12_take) C rfl rfl aX12_take iX12_take sX12_take hRm (by omega) (by decide) (by omega) (by omega) rfl rfl rfl (Nat.le_of_ble_eq_true rfl) rfl hf (fun hs => wX12_take (by omega) (by omega) hs) (fun r5 c6 hf => ?_)
  refine mg_istore (lv' := [(0, .ref 4000000), (1, .ref v1), (2, .ref v2), (3, .ref v3), (4, .int v4), (5, .int r2), (6, .int r5)]) C rfl (Nat.le_of_ble_eq_true rfl) rfl ?_
  refine mg_aload_n C rfl rfl ?_
  refine mh_cVI (M' := qX12_thrown) C rfl rfl aX12_thrown iX12_thrown sX12_thrown hRm (by omega) (by decide) (by omega) (by omega) rfl rfl rfl (Nat.le_of_ble_eq_true rfl) rfl hf (fun hs => wX12_thrown (by omega) (by omega) hs) (fun r7 c8 hf => ?_)
  refine mg_iload C rfl rfl ?_
  refine mh_icmp_eq C rfl hf (fun e_749 hf => ?_) (fun e_749 hf => ?_)
  · refine mg_iload C rfl rfl ?_
    refine mh_if_ne C rfl hf (fun e_756 hf => ?_) (fun e_756 hf => ?_)
    · refine mg_goto C rfl ?_
      refine mg_iinc (lv' := [(0, .ref 4000000), (1, .ref v1), (2, .ref v2), (3, .ref v3), (4, .int (v4 + 6)), (5, .int r2), (6, .int r5)]) C rfl (Nat.le_of_ble_eq_true rfl) rfl (show _ + Int32.ofInt 6 = _ + 6 by congr 1) rfl ?_
      refine mg_goto C rfl ?_
      refine mg_sub (lv' := [(0, .ref 4000000), (1, .ref v1), (2, .ref v2), (3, .ref v3), (4, .int (v4 + 6))]) (by simp) ?_
      exact hk23 _ _ _ _ _ _ _ _ (by omega) (by omega) (by omega) (by omega) (by omega) (by omega) hf
    · refine mg_aload_n C rfl rfl ?_
      refine mg_iconst (v := 0) C rfl (by decide) ?_
      refine mh_aL C rfl hf (fun x9 hf => ?_)
      refine mg_iload C rfl rfl ?_
      refine mg_i2l C rfl ?_
      refine mg_lcmp C rfl ?_
      refine mh_if_eq C rfl hf (fun e_766 hf => ?_) (fun e_766 hf => ?_)
      · refine mg_goto C rfl ?_
        refine mg_iinc (lv' := [(0, .ref 4000000), (1, .ref v1), (2, .ref v2), (3, .ref v3), (4, .int (v4 + 6)), (5, .int r2), (6, .int r5)]) C rfl (Nat.le_of_ble_eq_true rfl) rfl (show _ + Int32.ofInt 6 = _ + 6 by congr 1) rfl ?_
        refine mg_goto C rfl ?_
        refine mg_sub (lv' := [(0, .ref 4000000), (1, .ref v1), (2, .ref v2), (3, .ref v3), (4, .int (v4 + 6))]) (by simp) ?_
        exact hk23 _ _ _ _ _ _ _ _ (by omega) (by omega) (by omega) (by omega) (by omega) (by omega) hf
      · refine mg_iconst (v := 0) C rfl (by decide) ?_
        exact mh_zreturn C rfl (by omega) (by omega) rfl hf
  · refine mg_iconst (v := 0) C rfl (by decide) ?_
    exact mh_zreturn C rfl (by omega) (by omega) rfl hf
