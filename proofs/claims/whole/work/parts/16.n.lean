/- needs: 15.acall 15.fun 15.gcatch 16.i11 -/
set_option maxRecDepth 100000 in
theorem awL_plan : mm_calW qL_plan 3 := ⟨rfl, mm_in 903 (by decide +kernel) rfl, mm_in 109 (by decide +kernel) rfl, by decide +kernel, by decide +kernel, by decide +kernel⟩
set_option maxRecDepth 100000 in
theorem awL_count : mm_calW qL_count 3 := ⟨rfl, mm_in 1243 (by decide +kernel) rfl, mm_in 109 (by decide +kernel) rfl, by decide +kernel, by decide +kernel, by decide +kernel⟩
set_option maxRecDepth 100000 in
theorem awL_shot : mm_calW qL_shot 4 := ⟨rfl, mm_in 1268 (by decide +kernel) rfl, mm_in 109 (by decide +kernel) rfl, by decide +kernel, by decide +kernel, by decide +kernel⟩
set_option maxRecDepth 100000 in
theorem awL_sky : mm_calW qL_sky 4 := ⟨rfl, mm_in 1284 (by decide +kernel) rfl, mm_in 109 (by decide +kernel) rfl, by decide +kernel, by decide +kernel, by decide +kernel⟩
set_option maxRecDepth 100000 in
theorem awL_why : mm_calW qL_why 4 := ⟨rfl, mm_in 1305 (by decide +kernel) rfl, mm_in 109 (by decide +kernel) rfl, by decide +kernel, by decide +kernel, by decide +kernel⟩
set_option maxRecDepth 100000 in
theorem awL_ready : mm_calW qL_ready 3 := ⟨rfl, mm_in 1318 (by decide +kernel) rfl, mm_in 109 (by decide +kernel) rfl, by decide +kernel, by decide +kernel, by decide +kernel⟩
set_option maxRecDepth 100000 in
theorem awL_edge : mm_calW qL_edge 3 := ⟨rfl, mm_in 1325 (by decide +kernel) rfl, mm_in 109 (by decide +kernel) rfl, by decide +kernel, by decide +kernel, by decide +kernel⟩
set_option maxRecDepth 100000 in
theorem awL_take : mm_calW qL_take 3 := ⟨rfl, mm_in 1332 (by decide +kernel) rfl, mm_in 109 (by decide +kernel) rfl, by decide +kernel, by decide +kernel, by decide +kernel⟩
set_option maxRecDepth 100000 in
theorem awL_sets : mm_calW qL_sets 4 := ⟨rfl, mm_in 1340 (by decide +kernel) rfl, mm_in 109 (by decide +kernel) rfl, by decide +kernel, by decide +kernel, by decide +kernel⟩
set_option maxRecDepth 100000 in
theorem awL_day : mm_calW qL_day 4 := ⟨rfl, mm_in 1351 (by decide +kernel) rfl, mm_in 109 (by decide +kernel) rfl, by decide +kernel, by decide +kernel, by decide +kernel⟩
set_option maxRecDepth 100000 in
theorem awL_most : mm_calW qL_most 3 := ⟨rfl, mm_in 1363 (by decide +kernel) rfl, mm_in 109 (by decide +kernel) rfl, by decide +kernel, by decide +kernel, by decide +kernel⟩
set_option maxRecDepth 100000 in
theorem awL_order : mm_calW qL_order 3 := ⟨rfl, mm_in 1370 (by decide +kernel) rfl, mm_in 109 (by decide +kernel) rfl, by decide +kernel, by decide +kernel, by decide +kernel⟩
set_option maxRecDepth 100000 in
theorem awL_soonest : mm_calW qL_soonest 3 := ⟨rfl, mm_in 1387 (by decide +kernel) rfl, mm_in 109 (by decide +kernel) rfl, by decide +kernel, by decide +kernel, by decide +kernel⟩
set_option maxRecDepth 100000 in
theorem awL_worth : mm_calW qL_worth 3 := ⟨rfl, mm_in 1396 (by decide +kernel) rfl, mm_in 109 (by decide +kernel) rfl, by decide +kernel, by decide +kernel, by decide +kernel⟩
set_option maxRecDepth 100000 in
theorem awL_chances : mm_calW qL_chances 4 := ⟨rfl, mm_in 1404 (by decide +kernel) rfl, mm_in 109 (by decide +kernel) rfl, by decide +kernel, by decide +kernel, by decide +kernel⟩
set_option maxRecDepth 100000 in
theorem awL_without : mm_calW qL_without 3 := ⟨rfl, mm_in 1412 (by decide +kernel) rfl, mm_in 109 (by decide +kernel) rfl, by decide +kernel, by decide +kernel, by decide +kernel⟩
set_option maxRecDepth 100000 in
theorem awL_shorter : mm_calW qL_shorter 3 := ⟨rfl, mm_in 1419 (by decide +kernel) rfl, mm_in 109 (by decide +kernel) rfl, by decide +kernel, by decide +kernel, by decide +kernel⟩
set_option maxRecDepth 100000 in
theorem awL_idle : mm_calW qL_idle 4 := ⟨rfl, mm_in 1428 (by decide +kernel) rfl, mm_in 109 (by decide +kernel) rfl, by decide +kernel, by decide +kernel, by decide +kernel⟩
set_option maxRecDepth 100000 in
theorem awL_holes : mm_calW qL_holes 3 := ⟨rfl, mm_in 1435 (by decide +kernel) rfl, mm_in 109 (by decide +kernel) rfl, by decide +kernel, by decide +kernel, by decide +kernel⟩
set_option maxRecDepth 100000 in
theorem awL_hole : mm_calW qL_hole 3 := ⟨rfl, mm_in 1447 (by decide +kernel) rfl, mm_in 109 (by decide +kernel) rfl, by decide +kernel, by decide +kernel, by decide +kernel⟩
set_option maxRecDepth 100000 in
theorem awL_lasts : mm_calW qL_lasts 5 := ⟨rfl, mm_in 1457 (by decide +kernel) rfl, mm_in 109 (by decide +kernel) rfl, by decide +kernel, by decide +kernel, by decide +kernel⟩
set_option maxRecDepth 100000 in
theorem awL_trial : mm_calW qL_trial 6 := ⟨rfl, mm_in 1471 (by decide +kernel) rfl, mm_in 109 (by decide +kernel) rfl, by decide +kernel, by decide +kernel, by decide +kernel⟩
set_option maxRecDepth 100000 in
theorem awL_see : mm_calW qL_see 5 := ⟨rfl, mm_in 1479 (by decide +kernel) rfl, mm_in 109 (by decide +kernel) rfl, by decide +kernel, by decide +kernel, by decide +kernel⟩
set_option maxRecDepth 100000 in
theorem awL_week : mm_calW qL_week 6 := ⟨rfl, mm_in 1490 (by decide +kernel) rfl, mm_in 109 (by decide +kernel) rfl, by decide +kernel, by decide +kernel, by decide +kernel⟩
def bL_plan_0 (N : Nat)  (v0 : Nat) (v1 : Int32) (v2 : Nat) (c : mm_C) : mR Int32 :=
  cX 11 v0 c (fX11_plan N v0 v1 c) (fun r3 c4 => Option.bind (tL c4 v2 (0 : Int32) r3.toInt64) fun c7 => some (.inl (0 : Int32), c7)) (fun e6 c5 => if e6 = 0 then (some (.inl (1 : Int32), c5)) else (none))
set_option maxRecDepth 100000 in
theorem wL_plan_0 {Z : mm_Z} {X : mm_T} {k w mc ms d n N : Nat} {Q : mm_O → mm_H → Prop} (C : mm_Ok Z qL_plan X) (hRm : mt_R X = mm_rm d mc ms) (hd : 105 ≤ d) (hn : n + 2 < 1000000) (hk : k + 2 ≤ mc) (hw : w + 12 ≤ ms) {v0 : Nat} {v1 : Int32} {v2 : Nat} {c : mm_C} (hf : hO 2 ovI n (bL_plan_0 N  v0 v1 v2 c) Q) : mG Z qL_plan X k w mc ms Q (0, [(0, .ref v0), (1, .int v1), (2, .ref v2)], [], (n, c)) := by
  unfold bL_plan_0 at hf
  refine mg_aload_n C rfl rfl ?_
  refine mg_iconst (v := 0) C rfl (by decide) ?_
  refine mg_aload_n C rfl rfl ?_
  refine mg_iload_n C rfl rfl ?_
  refine mh_cXI (t := 0) (tn := 1) (kc := 2) (M' := qX11_plan) C rfl rfl aX11_plan iX11_plan sX11_plan hRm (by omega) (by decide) (by omega) (by omega) rfl rfl rfl (Nat.le_of_ble_eq_true rfl) hf (fun hs => wX11_plan (by omega) (by omega) hs) (fun r3 c4 n hn1 hn2 hf => ?_) (fun e6 c5 n hn1 hn2 hf => ?_)
  · refine mg_i2l C rfl ?_
    refine mh_tL C rfl hf (fun c7 hf => ?_)
    refine mg_goto C rfl ?_
    refine mg_iconst (v := 0) C rfl (by decide) ?_
    exact mh_ireturn C rfl (by omega) (by omega) rfl hf
  · refine mh_catch hf (fun e_12 hf => ?_) (fun hf => ?_)
    · subst e_12
      refine mx_catch (nm := "java/lang/IllegalArgumentException") (pre := []) (suf := []) C rfl rfl (fun r hr => absurd hr List.not_mem_nil) (by decide) (by decide) (mm_in 904 (by decide +kernel) rfl) (by decide) rfl (by decide) ?_
      show mG _ _ _ _ _ _ _ _ (_, [(0, .ref v0), (1, .int v1), (2, .ref v2)], _, _)
      refine mg_iconst (v := 1) C rfl (by decide) ?_
      exact mh_ireturn C rfl (by omega) (by omega) rfl hf
    exact absurd hf hO_none
def fL_plan (N : Nat) (v0 : Nat) (v1 : Int32) (v2 : Nat) (c : mm_C) : mR Int32 := bL_plan_0 N v0 v1 v2 c
set_option maxRecDepth 100000 in
theorem wL_plan {Z : mm_Z} {d n N : Nat} (hd : 105 ≤ d) (hn : n + 2 < 1000000) {v0 : Nat} {v1 : Int32} {v2 : Nat} {c : mm_C} (hs : (fL_plan N v0 v1 v2 c).isSome = true) : mC Z qL_plan d 2 12 [.ref v0, .int v1, .ref v2] (n, c) (mP 2 ovI n (fL_plan N v0 v1 v2 c)) := by
  refine mC_of gL_plan (by decide +kernel) (Nat.le_of_ble_eq_true rfl) fun X C hRm => ?_
  have hf := hO_mP 2 ovI n hs
  have hk : 0 + 2 ≤ 2 := Nat.le_of_ble_eq_true rfl
  have hw : 0 + 12 ≤ 12 := Nat.le_of_ble_eq_true rfl
  show mG _ _ _ _ _ _ _ _ (0, [(0, .ref v0), (1, .int v1), (2, .ref v2)], [], (n, c))
  exact wL_plan_0 C hRm hd hn hk hw hf
def bL_count_0 (N : Nat)  (v0 : Nat) (v1 : Int32) (v2 : Nat) (c : mm_C) : mR Int32 :=
  cX 11 v0 c (fX11_count N v0 v1 c) (fun r3 c4 => Option.bind (tL c4 v2 (0 : Int32) r3.toInt64) fun c7 => some (.inl (0 : Int32), c7)) (fun e6 c5 => if e6 = 1 then (some (.inl (1 : Int32), c5)) else (none))
set_option maxRecDepth 100000 in
theorem wL_count_0 {Z : mm_Z} {X : mm_T} {k w mc ms d n N : Nat} {Q : mm_O → mm_H → Prop} (C : mm_Ok Z qL_count X) (hRm : mt_R X = mm_rm d mc ms) (hd : 8 ≤ d) (hn : n + 1 < 1000000) (hk : k + 1 ≤ mc) (hw : w + 6 ≤ ms) {v0 : Nat} {v1 : Int32} {v2 : Nat} {c : mm_C} (hf : hO 1 ovI n (bL_count_0 N  v0 v1 v2 c) Q) : mG Z qL_count X k w mc ms Q (0, [(0, .ref v0), (1, .int v1), (2, .ref v2)], [], (n, c)) := by
  unfold bL_count_0 at hf
  refine mg_aload_n C rfl rfl ?_
  refine mg_iconst (v := 0) C rfl (by decide) ?_
  refine mg_aload_n C rfl rfl ?_
  refine mg_iload_n C rfl rfl ?_
  refine mh_cXI (t := 0) (tn := 0) (kc := 1) (M' := qX11_count) C rfl rfl aX11_count iX11_count sX11_count hRm (by omega) (by decide) (by omega) (by omega) rfl rfl rfl (Nat.le_of_ble_eq_true rfl) hf (fun hs => wX11_count (by omega) (by omega) hs) (fun r3 c4 n hn1 hn2 hf => ?_) (fun e6 c5 n hn1 hn2 hf => ?_)
  · refine mg_i2l C rfl ?_
    refine mh_tL C rfl hf (fun c7 hf => ?_)
    refine mg_goto C rfl ?_
    refine mg_iconst (v := 0) C rfl (by decide) ?_
    exact mh_ireturn C rfl (by omega) (by omega) rfl hf
  · refine mh_catch hf (fun e_12 hf => ?_) (fun hf => ?_)
    · subst e_12
      refine mx_catch (nm := "java/util/NoSuchElementException") (pre := []) (suf := []) C rfl rfl (fun r hr => absurd hr List.not_mem_nil) (by decide) (by decide) (mm_in 1244 (by decide +kernel) rfl) (by decide) rfl (by decide) ?_
      show mG _ _ _ _ _ _ _ _ (_, [(0, .ref v0), (1, .int v1), (2, .ref v2)], _, _)
      refine mg_iconst (v := 1) C rfl (by decide) ?_
      exact mh_ireturn C rfl (by omega) (by omega) rfl hf
    exact absurd hf hO_none
def fL_count (N : Nat) (v0 : Nat) (v1 : Int32) (v2 : Nat) (c : mm_C) : mR Int32 := bL_count_0 N v0 v1 v2 c
set_option maxRecDepth 100000 in
theorem wL_count {Z : mm_Z} {d n N : Nat} (hd : 8 ≤ d) (hn : n + 1 < 1000000) {v0 : Nat} {v1 : Int32} {v2 : Nat} {c : mm_C} (hs : (fL_count N v0 v1 v2 c).isSome = true) : mC Z qL_count d 1 6 [.ref v0, .int v1, .ref v2] (n, c) (mP 1 ovI n (fL_count N v0 v1 v2 c)) := by
  refine mC_of gL_count (by decide +kernel) (Nat.le_of_ble_eq_true rfl) fun X C hRm => ?_
  have hf := hO_mP 1 ovI n hs
  have hk : 0 + 1 ≤ 1 := Nat.le_of_ble_eq_true rfl
  have hw : 0 + 6 ≤ 6 := Nat.le_of_ble_eq_true rfl
  show mG _ _ _ _ _ _ _ _ (0, [(0, .ref v0), (1, .int v1), (2, .ref v2)], [], (n, c))
  exact wL_count_0 C hRm hd hn hk hw hf
def bL_shot_0 (N : Nat)  (v0 : Nat) (v1 : Int32) (v2 : Int32) (v3 : Nat) (c : mm_C) : mR Int32 :=
  cX 11 v0 c (fX11_shot N v0 v1 v2 c) (fun r3 c4 => Option.bind (tL c4 v3 (0 : Int32) r3.toInt64) fun c7 => some (.inl (0 : Int32), c7)) (fun e6 c5 => if e6 = 1 then (some (.inl (1 : Int32), c5)) else (none))
set_option maxRecDepth 100000 in
theorem wL_shot_0 {Z : mm_Z} {X : mm_T} {k w mc ms d n N : Nat} {Q : mm_O → mm_H → Prop} (C : mm_Ok Z qL_shot X) (hRm : mt_R X = mm_rm d mc ms) (hd : 9 ≤ d) (hn : n + 1 < 1000000) (hk : k + 1 ≤ mc) (hw : w + 6 ≤ ms) {v0 : Nat} {v1 : Int32} {v2 : Int32} {v3 : Nat} {c : mm_C} (hf : hO 1 ovI n (bL_shot_0 N  v0 v1 v2 v3 c) Q) : mG Z qL_shot X k w mc ms Q (0, [(0, .ref v0), (1, .int v1), (2, .int v2), (3, .ref v3)], [], (n, c)) := by
  unfold bL_shot_0 at hf
  refine mg_aload_n C rfl rfl ?_
  refine mg_iconst (v := 0) C rfl (by decide) ?_
  refine mg_aload_n C rfl rfl ?_
  refine mg_iload_n C rfl rfl ?_
  refine mg_iload_n C rfl rfl ?_
  refine mh_cXI (t := 0) (tn := 0) (kc := 1) (M' := qX11_shot) C rfl rfl aX11_shot iX11_shot sX11_shot hRm (by omega) (by decide) (by omega) (by omega) rfl rfl rfl (Nat.le_of_ble_eq_true rfl) hf (fun hs => wX11_shot (by omega) (by omega) hs) (fun r3 c4 n hn1 hn2 hf => ?_) (fun e6 c5 n hn1 hn2 hf => ?_)
  · refine mg_i2l C rfl ?_
    refine mh_tL C rfl hf (fun c7 hf => ?_)
    refine mg_goto C rfl ?_
    refine mg_iconst (v := 0) C rfl (by decide) ?_
    exact mh_ireturn C rfl (by omega) (by omega) rfl hf
  · refine mh_catch hf (fun e_13 hf => ?_) (fun hf => ?_)
    · subst e_13
      refine mx_catchW (nm := "java/util/NoSuchElementException") (pre := []) (suf := []) C rfl rfl (fun r hr => absurd hr List.not_mem_nil) (by decide) (by decide) (mm_in 1244 (by decide +kernel) rfl) (by decide) rfl (by decide) ?_
      show mG _ _ _ _ _ _ _ _ (_, [(0, .ref v0), (1, .int v1), (2, .int v2), (3, .ref v3)], _, _)
      refine mg_iconst (v := 1) C rfl (by decide) ?_
      exact mh_ireturn C rfl (by omega) (by omega) rfl hf
    exact absurd hf hO_none
def fL_shot (N : Nat) (v0 : Nat) (v1 : Int32) (v2 : Int32) (v3 : Nat) (c : mm_C) : mR Int32 := bL_shot_0 N v0 v1 v2 v3 c
set_option maxRecDepth 100000 in
theorem wL_shot {Z : mm_Z} {d n N : Nat} (hd : 9 ≤ d) (hn : n + 1 < 1000000) {v0 : Nat} {v1 : Int32} {v2 : Int32} {v3 : Nat} {c : mm_C} (hs : (fL_shot N v0 v1 v2 v3 c).isSome = true) : mC Z qL_shot d 1 6 [.ref v0, .int v1, .int v2, .ref v3] (n, c) (mP 1 ovI n (fL_shot N v0 v1 v2 v3 c)) := by
  refine mC_of gL_shot (by decide +kernel) (Nat.le_of_ble_eq_true rfl) fun X C hRm => ?_
  have hf := hO_mP 1 ovI n hs
  have hk : 0 + 1 ≤ 1 := Nat.le_of_ble_eq_true rfl
  have hw : 0 + 6 ≤ 6 := Nat.le_of_ble_eq_true rfl
  show mG _ _ _ _ _ _ _ _ (0, [(0, .ref v0), (1, .int v1), (2, .int v2), (3, .ref v3)], [], (n, c))
  exact wL_shot_0 C hRm hd hn hk hw hf
def bL_sky_0 (N : Nat)  (v0 : Nat) (v1 : Int32) (v2 : Int32) (v3 : Nat) (c : mm_C) : mR Int32 :=
  cX 11 v0 c (fX11_sky N v0 v1 v2 c) (fun r3 c4 => Option.bind (tL c4 v3 (0 : Int32) r3.toInt64) fun c7 => some (.inl (0 : Int32), c7)) (fun e6 c5 => if e6 = 1 then (some (.inl (1 : Int32), c5)) else (none))
set_option maxRecDepth 100000 in
theorem wL_sky_0 {Z : mm_Z} {X : mm_T} {k w mc ms d n N : Nat} {Q : mm_O → mm_H → Prop} (C : mm_Ok Z qL_sky X) (hRm : mt_R X = mm_rm d mc ms) (hd : 9 ≤ d) (hn : n + 1 < 1000000) (hk : k + 1 ≤ mc) (hw : w + 6 ≤ ms) {v0 : Nat} {v1 : Int32} {v2 : Int32} {v3 : Nat} {c : mm_C} (hf : hO 1 ovI n (bL_sky_0 N  v0 v1 v2 v3 c) Q) : mG Z qL_sky X k w mc ms Q (0, [(0, .ref v0), (1, .int v1), (2, .int v2), (3, .ref v3)], [], (n, c)) := by
  unfold bL_sky_0 at hf
  refine mg_aload_n C rfl rfl ?_
  refine mg_iconst (v := 0) C rfl (by decide) ?_
  refine mg_aload_n C rfl rfl ?_
  refine mg_iload_n C rfl rfl ?_
  refine mg_iload_n C rfl rfl ?_
  refine mh_cXI (t := 0) (tn := 0) (kc := 1) (M' := qX11_sky) C rfl rfl aX11_sky iX11_sky sX11_sky hRm (by omega) (by decide) (by omega) (by omega) rfl rfl rfl (Nat.le_of_ble_eq_true rfl) hf (fun hs => wX11_sky (by omega) (by omega) hs) (fun r3 c4 n hn1 hn2 hf => ?_) (fun e6 c5 n hn1 hn2 hf => ?_)
  · refine mg_i2l C rfl ?_
    refine mh_tL C rfl hf (fun c7 hf => ?_)
    refine mg_goto C rfl ?_
    refine mg_iconst (v := 0) C rfl (by decide) ?_
    exact mh_ireturn C rfl (by omega) (by omega) rfl hf
  · refine mh_catch hf (fun e_13 hf => ?_) (fun hf => ?_)
    · subst e_13
      refine mx_catchW (nm := "java/util/NoSuchElementException") (pre := []) (suf := []) C rfl rfl (fun r hr => absurd hr List.not_mem_nil) (by decide) (by decide) (mm_in 1244 (by decide +kernel) rfl) (by decide) rfl (by decide) ?_
      show mG _ _ _ _ _ _ _ _ (_, [(0, .ref v0), (1, .int v1), (2, .int v2), (3, .ref v3)], _, _)
      refine mg_iconst (v := 1) C rfl (by decide) ?_
      exact mh_ireturn C rfl (by omega) (by omega) rfl hf
    exact absurd hf hO_none
def fL_sky (N : Nat) (v0 : Nat) (v1 : Int32) (v2 : Int32) (v3 : Nat) (c : mm_C) : mR Int32 := bL_sky_0 N v0 v1 v2 v3 c
set_option maxRecDepth 100000 in
theorem wL_sky {Z : mm_Z} {d n N : Nat} (hd : 9 ≤ d) (hn : n + 1 < 1000000) {v0 : Nat} {v1 : Int32} {v2 : Int32} {v3 : Nat} {c : mm_C} (hs : (fL_sky N v0 v1 v2 v3 c).isSome = true) : mC Z qL_sky d 1 6 [.ref v0, .int v1, .int v2, .ref v3] (n, c) (mP 1 ovI n (fL_sky N v0 v1 v2 v3 c)) := by
  refine mC_of gL_sky (by decide +kernel) (Nat.le_of_ble_eq_true rfl) fun X C hRm => ?_
  have hf := hO_mP 1 ovI n hs
  have hk : 0 + 1 ≤ 1 := Nat.le_of_ble_eq_true rfl
  have hw : 0 + 6 ≤ 6 := Nat.le_of_ble_eq_true rfl
  show mG _ _ _ _ _ _ _ _ (0, [(0, .ref v0), (1, .int v1), (2, .int v2), (3, .ref v3)], [], (n, c))
  exact wL_sky_0 C hRm hd hn hk hw hf
def bL_why_0 (N : Nat)  (v0 : Nat) (v1 : Int32) (v2 : Int32) (v3 : Nat) (c : mm_C) : mR Int32 :=
  cX 11 v0 c (fX11_why N v0 v1 v2 c) (fun r3 c4 => Option.bind (tL c4 v3 (0 : Int32) r3.toInt64) fun c7 => some (.inl (0 : Int32), c7)) (fun e6 c5 => if e6 = 1 then (some (.inl (1 : Int32), c5)) else (none))
set_option maxRecDepth 100000 in
theorem wL_why_0 {Z : mm_Z} {X : mm_T} {k w mc ms d n N : Nat} {Q : mm_O → mm_H → Prop} (C : mm_Ok Z qL_why X) (hRm : mt_R X = mm_rm d mc ms) (hd : 9 ≤ d) (hn : n + 1 < 1000000) (hk : k + 1 ≤ mc) (hw : w + 6 ≤ ms) {v0 : Nat} {v1 : Int32} {v2 : Int32} {v3 : Nat} {c : mm_C} (hf : hO 1 ovI n (bL_why_0 N  v0 v1 v2 v3 c) Q) : mG Z qL_why X k w mc ms Q (0, [(0, .ref v0), (1, .int v1), (2, .int v2), (3, .ref v3)], [], (n, c)) := by
  unfold bL_why_0 at hf
  refine mg_aload_n C rfl rfl ?_
  refine mg_iconst (v := 0) C rfl (by decide) ?_
  refine mg_aload_n C rfl rfl ?_
  refine mg_iload_n C rfl rfl ?_
  refine mg_iload_n C rfl rfl ?_
  refine mh_cXI (t := 0) (tn := 0) (kc := 1) (M' := qX11_why) C rfl rfl aX11_why iX11_why sX11_why hRm (by omega) (by decide) (by omega) (by omega) rfl rfl rfl (Nat.le_of_ble_eq_true rfl) hf (fun hs => wX11_why (by omega) (by omega) hs) (fun r3 c4 n hn1 hn2 hf => ?_) (fun e6 c5 n hn1 hn2 hf => ?_)
  · refine mg_i2l C rfl ?_
    refine mh_tL C rfl hf (fun c7 hf => ?_)
    refine mg_goto C rfl ?_
    refine mg_iconst (v := 0) C rfl (by decide) ?_
    exact mh_ireturn C rfl (by omega) (by omega) rfl hf
  · refine mh_catch hf (fun e_13 hf => ?_) (fun hf => ?_)
    · subst e_13
      refine mx_catchW (nm := "java/util/NoSuchElementException") (pre := []) (suf := []) C rfl rfl (fun r hr => absurd hr List.not_mem_nil) (by decide) (by decide) (mm_in 1244 (by decide +kernel) rfl) (by decide) rfl (by decide) ?_
      show mG _ _ _ _ _ _ _ _ (_, [(0, .ref v0), (1, .int v1), (2, .int v2), (3, .ref v3)], _, _)
      refine mg_iconst (v := 1) C rfl (by decide) ?_
      exact mh_ireturn C rfl (by omega) (by omega) rfl hf
    exact absurd hf hO_none
def fL_why (N : Nat) (v0 : Nat) (v1 : Int32) (v2 : Int32) (v3 : Nat) (c : mm_C) : mR Int32 := bL_why_0 N v0 v1 v2 v3 c
set_option maxRecDepth 100000 in
theorem wL_why {Z : mm_Z} {d n N : Nat} (hd : 9 ≤ d) (hn : n + 1 < 1000000) {v0 : Nat} {v1 : Int32} {v2 : Int32} {v3 : Nat} {c : mm_C} (hs : (fL_why N v0 v1 v2 v3 c).isSome = true) : mC Z qL_why d 1 6 [.ref v0, .int v1, .int v2, .ref v3] (n, c) (mP 1 ovI n (fL_why N v0 v1 v2 v3 c)) := by
  refine mC_of gL_why (by decide +kernel) (Nat.le_of_ble_eq_true rfl) fun X C hRm => ?_
  have hf := hO_mP 1 ovI n hs
  have hk : 0 + 1 ≤ 1 := Nat.le_of_ble_eq_true rfl
  have hw : 0 + 6 ≤ 6 := Nat.le_of_ble_eq_true rfl
  show mG _ _ _ _ _ _ _ _ (0, [(0, .ref v0), (1, .int v1), (2, .int v2), (3, .ref v3)], [], (n, c))
  exact wL_why_0 C hRm hd hn hk hw hf
def bL_ready_0 (N : Nat)  (v0 : Nat) (v1 : Int32) (v2 : Nat) (c : mm_C) : mR Int32 :=
  cX 11 v0 c (fX11_ready N v0 v1 c) (fun r3 c4 => Option.bind (tL c4 v2 (0 : Int32) r3.toInt64) fun c7 => some (.inl (0 : Int32), c7)) (fun e6 c5 => if e6 = 1 then (some (.inl (1 : Int32), c5)) else (none))
set_option maxRecDepth 100000 in
theorem wL_ready_0 {Z : mm_Z} {X : mm_T} {k w mc ms d n N : Nat} {Q : mm_O → mm_H → Prop} (C : mm_Ok Z qL_ready X) (hRm : mt_R X = mm_rm d mc ms) (hd : 9 ≤ d) (hn : n + 1 < 1000000) (hk : k + 1 ≤ mc) (hw : w + 6 ≤ ms) {v0 : Nat} {v1 : Int32} {v2 : Nat} {c : mm_C} (hf : hO 1 ovI n (bL_ready_0 N  v0 v1 v2 c) Q) : mG Z qL_ready X k w mc ms Q (0, [(0, .ref v0), (1, .int v1), (2, .ref v2)], [], (n, c)) := by
  unfold bL_ready_0 at hf
  refine mg_aload_n C rfl rfl ?_
  refine mg_iconst (v := 0) C rfl (by decide) ?_
  refine mg_aload_n C rfl rfl ?_
  refine mg_iload_n C rfl rfl ?_
  refine mh_cXI (t := 0) (tn := 0) (kc := 1) (M' := qX11_ready) C rfl rfl aX11_ready iX11_ready sX11_ready hRm (by omega) (by decide) (by omega) (by omega) rfl rfl rfl (Nat.le_of_ble_eq_true rfl) hf (fun hs => wX11_ready (by omega) (by omega) hs) (fun r3 c4 n hn1 hn2 hf => ?_) (fun e6 c5 n hn1 hn2 hf => ?_)
  · refine mg_i2l C rfl ?_
    refine mh_tL C rfl hf (fun c7 hf => ?_)
    refine mg_goto C rfl ?_
    refine mg_iconst (v := 0) C rfl (by decide) ?_
    exact mh_ireturn C rfl (by omega) (by omega) rfl hf
  · refine mh_catch hf (fun e_12 hf => ?_) (fun hf => ?_)
    · subst e_12
      refine mx_catch (nm := "java/util/NoSuchElementException") (pre := []) (suf := []) C rfl rfl (fun r hr => absurd hr List.not_mem_nil) (by decide) (by decide) (mm_in 1244 (by decide +kernel) rfl) (by decide) rfl (by decide) ?_
      show mG _ _ _ _ _ _ _ _ (_, [(0, .ref v0), (1, .int v1), (2, .ref v2)], _, _)
      refine mg_iconst (v := 1) C rfl (by decide) ?_
      exact mh_ireturn C rfl (by omega) (by omega) rfl hf
    exact absurd hf hO_none
def fL_ready (N : Nat) (v0 : Nat) (v1 : Int32) (v2 : Nat) (c : mm_C) : mR Int32 := bL_ready_0 N v0 v1 v2 c
set_option maxRecDepth 100000 in
theorem wL_ready {Z : mm_Z} {d n N : Nat} (hd : 9 ≤ d) (hn : n + 1 < 1000000) {v0 : Nat} {v1 : Int32} {v2 : Nat} {c : mm_C} (hs : (fL_ready N v0 v1 v2 c).isSome = true) : mC Z qL_ready d 1 6 [.ref v0, .int v1, .ref v2] (n, c) (mP 1 ovI n (fL_ready N v0 v1 v2 c)) := by
  refine mC_of gL_ready (by decide +kernel) (Nat.le_of_ble_eq_true rfl) fun X C hRm => ?_
  have hf := hO_mP 1 ovI n hs
  have hk : 0 + 1 ≤ 1 := Nat.le_of_ble_eq_true rfl
  have hw : 0 + 6 ≤ 6 := Nat.le_of_ble_eq_true rfl
  show mG _ _ _ _ _ _ _ _ (0, [(0, .ref v0), (1, .int v1), (2, .ref v2)], [], (n, c))
  exact wL_ready_0 C hRm hd hn hk hw hf
def bL_edge_0 (N : Nat)  (v0 : Nat) (v1 : Int32) (v2 : Nat) (c : mm_C) : mR Int32 :=
  cX 11 v0 c (fX11_edge N v0 v1 c) (fun r3 c4 => Option.bind (tL c4 v2 (0 : Int32) r3.toInt64) fun c7 => some (.inl (0 : Int32), c7)) (fun e6 c5 => if e6 = 1 then (some (.inl (1 : Int32), c5)) else (none))
set_option maxRecDepth 100000 in
theorem wL_edge_0 {Z : mm_Z} {X : mm_T} {k w mc ms d n N : Nat} {Q : mm_O → mm_H → Prop} (C : mm_Ok Z qL_edge X) (hRm : mt_R X = mm_rm d mc ms) (hd : 9 ≤ d) (hn : n + 1 < 1000000) (hk : k + 1 ≤ mc) (hw : w + 6 ≤ ms) {v0 : Nat} {v1 : Int32} {v2 : Nat} {c : mm_C} (hf : hO 1 ovI n (bL_edge_0 N  v0 v1 v2 c) Q) : mG Z qL_edge X k w mc ms Q (0, [(0, .ref v0), (1, .int v1), (2, .ref v2)], [], (n, c)) := by
  unfold bL_edge_0 at hf
  refine mg_aload_n C rfl rfl ?_
  refine mg_iconst (v := 0) C rfl (by decide) ?_
  refine mg_aload_n C rfl rfl ?_
  refine mg_iload_n C rfl rfl ?_
  refine mh_cXI (t := 0) (tn := 0) (kc := 1) (M' := qX11_edge) C rfl rfl aX11_edge iX11_edge sX11_edge hRm (by omega) (by decide) (by omega) (by omega) rfl rfl rfl (Nat.le_of_ble_eq_true rfl) hf (fun hs => wX11_edge (by omega) (by omega) hs) (fun r3 c4 n hn1 hn2 hf => ?_) (fun e6 c5 n hn1 hn2 hf => ?_)
  · refine mg_i2l C rfl ?_
    refine mh_tL C rfl hf (fun c7 hf => ?_)
    refine mg_goto C rfl ?_
    refine mg_iconst (v := 0) C rfl (by decide) ?_
    exact mh_ireturn C rfl (by omega) (by omega) rfl hf
  · refine mh_catch hf (fun e_12 hf => ?_) (fun hf => ?_)
    · subst e_12
      refine mx_catch (nm := "java/util/NoSuchElementException") (pre := []) (suf := []) C rfl rfl (fun r hr => absurd hr List.not_mem_nil) (by decide) (by decide) (mm_in 1244 (by decide +kernel) rfl) (by decide) rfl (by decide) ?_
      show mG _ _ _ _ _ _ _ _ (_, [(0, .ref v0), (1, .int v1), (2, .ref v2)], _, _)
      refine mg_iconst (v := 1) C rfl (by decide) ?_
      exact mh_ireturn C rfl (by omega) (by omega) rfl hf
    exact absurd hf hO_none
def fL_edge (N : Nat) (v0 : Nat) (v1 : Int32) (v2 : Nat) (c : mm_C) : mR Int32 := bL_edge_0 N v0 v1 v2 c
set_option maxRecDepth 100000 in
theorem wL_edge {Z : mm_Z} {d n N : Nat} (hd : 9 ≤ d) (hn : n + 1 < 1000000) {v0 : Nat} {v1 : Int32} {v2 : Nat} {c : mm_C} (hs : (fL_edge N v0 v1 v2 c).isSome = true) : mC Z qL_edge d 1 6 [.ref v0, .int v1, .ref v2] (n, c) (mP 1 ovI n (fL_edge N v0 v1 v2 c)) := by
  refine mC_of gL_edge (by decide +kernel) (Nat.le_of_ble_eq_true rfl) fun X C hRm => ?_
  have hf := hO_mP 1 ovI n hs
  have hk : 0 + 1 ≤ 1 := Nat.le_of_ble_eq_true rfl
  have hw : 0 + 6 ≤ 6 := Nat.le_of_ble_eq_true rfl
  show mG _ _ _ _ _ _ _ _ (0, [(0, .ref v0), (1, .int v1), (2, .ref v2)], [], (n, c))
  exact wL_edge_0 C hRm hd hn hk hw hf
def bL_take_0 (N : Nat)  (v0 : Nat) (v1 : Int32) (v2 : Nat) (c : mm_C) : mR Int32 :=
  cX 11 v0 c (fX11_take N v0 v1 c) (fun r3 c4 => Option.bind (tL c4 v2 (0 : Int32) r3.toInt64) fun c7 => some (.inl (0 : Int32), c7)) (fun e6 c5 => if e6 = 1 then (some (.inl (1 : Int32), c5)) else (none))
set_option maxRecDepth 100000 in
theorem wL_take_0 {Z : mm_Z} {X : mm_T} {k w mc ms d n N : Nat} {Q : mm_O → mm_H → Prop} (C : mm_Ok Z qL_take X) (hRm : mt_R X = mm_rm d mc ms) (hd : 9 ≤ d) (hn : n + 1 < 1000000) (hk : k + 1 ≤ mc) (hw : w + 6 ≤ ms) {v0 : Nat} {v1 : Int32} {v2 : Nat} {c : mm_C} (hf : hO 1 ovI n (bL_take_0 N  v0 v1 v2 c) Q) : mG Z qL_take X k w mc ms Q (0, [(0, .ref v0), (1, .int v1), (2, .ref v2)], [], (n, c)) := by
  unfold bL_take_0 at hf
  refine mg_aload_n C rfl rfl ?_
  refine mg_iconst (v := 0) C rfl (by decide) ?_
  refine mg_aload_n C rfl rfl ?_
  refine mg_iload_n C rfl rfl ?_
  refine mh_cXI (t := 0) (tn := 0) (kc := 1) (M' := qX11_take) C rfl rfl aX11_take iX11_take sX11_take hRm (by omega) (by decide) (by omega) (by omega) rfl rfl rfl (Nat.le_of_ble_eq_true rfl) hf (fun hs => wX11_take (by omega) (by omega) hs) (fun r3 c4 n hn1 hn2 hf => ?_) (fun e6 c5 n hn1 hn2 hf => ?_)
  · refine mg_i2l C rfl ?_
    refine mh_tL C rfl hf (fun c7 hf => ?_)
    refine mg_goto C rfl ?_
    refine mg_iconst (v := 0) C rfl (by decide) ?_
    exact mh_ireturn C rfl (by omega) (by omega) rfl hf
  · refine mh_catch hf (fun e_12 hf => ?_) (fun hf => ?_)
    · subst e_12
      refine mx_catch (nm := "java/util/NoSuchElementException") (pre := []) (suf := []) C rfl rfl (fun r hr => absurd hr List.not_mem_nil) (by decide) (by decide) (mm_in 1244 (by decide +kernel) rfl) (by decide) rfl (by decide) ?_
      show mG _ _ _ _ _ _ _ _ (_, [(0, .ref v0), (1, .int v1), (2, .ref v2)], _, _)
      refine mg_iconst (v := 1) C rfl (by decide) ?_
      exact mh_ireturn C rfl (by omega) (by omega) rfl hf
    exact absurd hf hO_none
def fL_take (N : Nat) (v0 : Nat) (v1 : Int32) (v2 : Nat) (c : mm_C) : mR Int32 := bL_take_0 N v0 v1 v2 c
set_option maxRecDepth 100000 in
theorem wL_take {Z : mm_Z} {d n N : Nat} (hd : 9 ≤ d) (hn : n + 1 < 1000000) {v0 : Nat} {v1 : Int32} {v2 : Nat} {c : mm_C} (hs : (fL_take N v0 v1 v2 c).isSome = true) : mC Z qL_take d 1 6 [.ref v0, .int v1, .ref v2] (n, c) (mP 1 ovI n (fL_take N v0 v1 v2 c)) := by
  refine mC_of gL_take (by decide +kernel) (Nat.le_of_ble_eq_true rfl) fun X C hRm => ?_
  have hf := hO_mP 1 ovI n hs
  have hk : 0 + 1 ≤ 1 := Nat.le_of_ble_eq_true rfl
  have hw : 0 + 6 ≤ 6 := Nat.le_of_ble_eq_true rfl
  show mG _ _ _ _ _ _ _ _ (0, [(0, .ref v0), (1, .int v1), (2, .ref v2)], [], (n, c))
  exact wL_take_0 C hRm hd hn hk hw hf
def bL_sets_0 (N : Nat)  (v0 : Nat) (v1 : Int32) (v2 : Int32) (v3 : Nat) (c : mm_C) : mR Int32 :=
  cX 11 v0 c (fX11_sets N v0 v1 v2 c) (fun r3 c4 => if r3 = 0 then (Option.bind (tL c4 v3 (0 : Int32) (0 : Int64)) fun c7 => some (.inl (0 : Int32), c7)) else (Option.bind (tL c4 v3 (0 : Int32) (1 : Int64)) fun c8 => some (.inl (0 : Int32), c8))) (fun e6 c5 => if e6 = 1 then (some (.inl (1 : Int32), c5)) else (none))
set_option maxRecDepth 100000 in
theorem wL_sets_0 {Z : mm_Z} {X : mm_T} {k w mc ms d n N : Nat} {Q : mm_O → mm_H → Prop} (C : mm_Ok Z qL_sets X) (hRm : mt_R X = mm_rm d mc ms) (hd : 9 ≤ d) (hn : n + 1 < 1000000) (hk : k + 1 ≤ mc) (hw : w + 6 ≤ ms) {v0 : Nat} {v1 : Int32} {v2 : Int32} {v3 : Nat} {c : mm_C} (hf : hO 1 ovI n (bL_sets_0 N  v0 v1 v2 v3 c) Q) : mG Z qL_sets X k w mc ms Q (0, [(0, .ref v0), (1, .int v1), (2, .int v2), (3, .ref v3)], [], (n, c)) := by
  unfold bL_sets_0 at hf
  refine mg_aload_n C rfl rfl ?_
  refine mg_iconst (v := 0) C rfl (by decide) ?_
  refine mg_aload_n C rfl rfl ?_
  refine mg_iload_n C rfl rfl ?_
  refine mg_iload_n C rfl rfl ?_
  refine mh_cXI (t := 0) (tn := 0) (kc := 1) (M' := qX11_sets) C rfl rfl aX11_sets iX11_sets sX11_sets hRm (by omega) (by decide) (by omega) (by omega) rfl rfl rfl (Nat.le_of_ble_eq_true rfl) hf (fun hs => wX11_sets (by omega) (by omega) hs) (fun r3 c4 n hn1 hn2 hf => ?_) (fun e6 c5 n hn1 hn2 hf => ?_)
  · refine mh_if_eq C rfl hf (fun e_8 hf => ?_) (fun e_8 hf => ?_)
    · refine mg_lconst (v := 0) C rfl (by decide) ?_
      refine mh_tL C rfl hf (fun c7 hf => ?_)
      refine mg_goto C rfl ?_
      refine mg_iconst (v := 0) C rfl (by decide) ?_
      exact mh_ireturn C rfl (by omega) (by omega) rfl hf
    · refine mg_lconst (v := 1) C rfl (by decide) ?_
      refine mg_goto C rfl ?_
      refine mh_tL C rfl hf (fun c8 hf => ?_)
      refine mg_goto C rfl ?_
      refine mg_iconst (v := 0) C rfl (by decide) ?_
      exact mh_ireturn C rfl (by omega) (by omega) rfl hf
  · refine mh_catch hf (fun e_20 hf => ?_) (fun hf => ?_)
    · subst e_20
      refine mx_catchW (nm := "java/util/NoSuchElementException") (pre := []) (suf := []) C rfl rfl (fun r hr => absurd hr List.not_mem_nil) (by decide) (by decide) (mm_in 1244 (by decide +kernel) rfl) (by decide) rfl (by decide) ?_
      show mG _ _ _ _ _ _ _ _ (_, [(0, .ref v0), (1, .int v1), (2, .int v2), (3, .ref v3)], _, _)
      refine mg_iconst (v := 1) C rfl (by decide) ?_
      exact mh_ireturn C rfl (by omega) (by omega) rfl hf
    exact absurd hf hO_none
def fL_sets (N : Nat) (v0 : Nat) (v1 : Int32) (v2 : Int32) (v3 : Nat) (c : mm_C) : mR Int32 := bL_sets_0 N v0 v1 v2 v3 c
set_option maxRecDepth 100000 in
theorem wL_sets {Z : mm_Z} {d n N : Nat} (hd : 9 ≤ d) (hn : n + 1 < 1000000) {v0 : Nat} {v1 : Int32} {v2 : Int32} {v3 : Nat} {c : mm_C} (hs : (fL_sets N v0 v1 v2 v3 c).isSome = true) : mC Z qL_sets d 1 6 [.ref v0, .int v1, .int v2, .ref v3] (n, c) (mP 1 ovI n (fL_sets N v0 v1 v2 v3 c)) := by
  refine mC_of gL_sets (by decide +kernel) (Nat.le_of_ble_eq_true rfl) fun X C hRm => ?_
  have hf := hO_mP 1 ovI n hs
  have hk : 0 + 1 ≤ 1 := Nat.le_of_ble_eq_true rfl
  have hw : 0 + 6 ≤ 6 := Nat.le_of_ble_eq_true rfl
  show mG _ _ _ _ _ _ _ _ (0, [(0, .ref v0), (1, .int v1), (2, .int v2), (3, .ref v3)], [], (n, c))
  exact wL_sets_0 C hRm hd hn hk hw hf
def bL_day_0 (N : Nat)  (v0 : Nat) (v1 : Int32) (v2 : Int32) (v3 : Nat) (c : mm_C) : mR Int32 :=
  cX 11 v0 c (fX11_day N v0 v1 v2 c) (fun r3 c4 => Option.bind (tL c4 v3 (0 : Int32) r3.toInt64) fun c7 => some (.inl (0 : Int32), c7)) (fun e6 c5 => if e6 = 1 then (some (.inl (1 : Int32), c5)) else (none))
set_option maxRecDepth 100000 in
theorem wL_day_0 {Z : mm_Z} {X : mm_T} {k w mc ms d n N : Nat} {Q : mm_O → mm_H → Prop} (C : mm_Ok Z qL_day X) (hRm : mt_R X = mm_rm d mc ms) (hd : 9 ≤ d) (hn : n + 1 < 1000000) (hk : k + 1 ≤ mc) (hw : w + 6 ≤ ms) {v0 : Nat} {v1 : Int32} {v2 : Int32} {v3 : Nat} {c : mm_C} (hf : hO 1 ovI n (bL_day_0 N  v0 v1 v2 v3 c) Q) : mG Z qL_day X k w mc ms Q (0, [(0, .ref v0), (1, .int v1), (2, .int v2), (3, .ref v3)], [], (n, c)) := by
  unfold bL_day_0 at hf
  refine mg_aload_n C rfl rfl ?_
  refine mg_iconst (v := 0) C rfl (by decide) ?_
  refine mg_aload_n C rfl rfl ?_
  refine mg_iload_n C rfl rfl ?_
  refine mg_iload_n C rfl rfl ?_
  refine mh_cXI (t := 0) (tn := 0) (kc := 1) (M' := qX11_day) C rfl rfl aX11_day iX11_day sX11_day hRm (by omega) (by decide) (by omega) (by omega) rfl rfl rfl (Nat.le_of_ble_eq_true rfl) hf (fun hs => wX11_day (by omega) (by omega) hs) (fun r3 c4 n hn1 hn2 hf => ?_) (fun e6 c5 n hn1 hn2 hf => ?_)
  · refine mg_i2l C rfl ?_
    refine mh_tL C rfl hf (fun c7 hf => ?_)
    refine mg_goto C rfl ?_
    refine mg_iconst (v := 0) C rfl (by decide) ?_
    exact mh_ireturn C rfl (by omega) (by omega) rfl hf
  · refine mh_catch hf (fun e_13 hf => ?_) (fun hf => ?_)
    · subst e_13
      refine mx_catchW (nm := "java/util/NoSuchElementException") (pre := []) (suf := []) C rfl rfl (fun r hr => absurd hr List.not_mem_nil) (by decide) (by decide) (mm_in 1244 (by decide +kernel) rfl) (by decide) rfl (by decide) ?_
      show mG _ _ _ _ _ _ _ _ (_, [(0, .ref v0), (1, .int v1), (2, .int v2), (3, .ref v3)], _, _)
      refine mg_iconst (v := 1) C rfl (by decide) ?_
      exact mh_ireturn C rfl (by omega) (by omega) rfl hf
    exact absurd hf hO_none
def fL_day (N : Nat) (v0 : Nat) (v1 : Int32) (v2 : Int32) (v3 : Nat) (c : mm_C) : mR Int32 := bL_day_0 N v0 v1 v2 v3 c
set_option maxRecDepth 100000 in
theorem wL_day {Z : mm_Z} {d n N : Nat} (hd : 9 ≤ d) (hn : n + 1 < 1000000) {v0 : Nat} {v1 : Int32} {v2 : Int32} {v3 : Nat} {c : mm_C} (hs : (fL_day N v0 v1 v2 v3 c).isSome = true) : mC Z qL_day d 1 6 [.ref v0, .int v1, .int v2, .ref v3] (n, c) (mP 1 ovI n (fL_day N v0 v1 v2 v3 c)) := by
  refine mC_of gL_day (by decide +kernel) (Nat.le_of_ble_eq_true rfl) fun X C hRm => ?_
  have hf := hO_mP 1 ovI n hs
  have hk : 0 + 1 ≤ 1 := Nat.le_of_ble_eq_true rfl
  have hw : 0 + 6 ≤ 6 := Nat.le_of_ble_eq_true rfl
  show mG _ _ _ _ _ _ _ _ (0, [(0, .ref v0), (1, .int v1), (2, .int v2), (3, .ref v3)], [], (n, c))
  exact wL_day_0 C hRm hd hn hk hw hf
def bL_most_0 (N : Nat)  (v0 : Nat) (v1 : Int32) (v2 : Nat) (c : mm_C) : mR Int32 :=
  cX 11 v0 c (fX11_most N v0 v1 c) (fun r3 c4 => Option.bind (tL c4 v2 (0 : Int32) r3.toInt64) fun c7 => some (.inl (0 : Int32), c7)) (fun e6 c5 => if e6 = 1 then (some (.inl (1 : Int32), c5)) else (none))
set_option maxRecDepth 100000 in
theorem wL_most_0 {Z : mm_Z} {X : mm_T} {k w mc ms d n N : Nat} {Q : mm_O → mm_H → Prop} (C : mm_Ok Z qL_most X) (hRm : mt_R X = mm_rm d mc ms) (hd : 9 ≤ d) (hn : n + 1 < 1000000) (hk : k + 1 ≤ mc) (hw : w + 6 ≤ ms) {v0 : Nat} {v1 : Int32} {v2 : Nat} {c : mm_C} (hf : hO 1 ovI n (bL_most_0 N  v0 v1 v2 c) Q) : mG Z qL_most X k w mc ms Q (0, [(0, .ref v0), (1, .int v1), (2, .ref v2)], [], (n, c)) := by
  unfold bL_most_0 at hf
  refine mg_aload_n C rfl rfl ?_
  refine mg_iconst (v := 0) C rfl (by decide) ?_
  refine mg_aload_n C rfl rfl ?_
  refine mg_iload_n C rfl rfl ?_
  refine mh_cXI (t := 0) (tn := 0) (kc := 1) (M' := qX11_most) C rfl rfl aX11_most iX11_most sX11_most hRm (by omega) (by decide) (by omega) (by omega) rfl rfl rfl (Nat.le_of_ble_eq_true rfl) hf (fun hs => wX11_most (by omega) (by omega) hs) (fun r3 c4 n hn1 hn2 hf => ?_) (fun e6 c5 n hn1 hn2 hf => ?_)
  · refine mg_i2l C rfl ?_
    refine mh_tL C rfl hf (fun c7 hf => ?_)
    refine mg_goto C rfl ?_
    refine mg_iconst (v := 0) C rfl (by decide) ?_
    exact mh_ireturn C rfl (by omega) (by omega) rfl hf
  · refine mh_catch hf (fun e_12 hf => ?_) (fun hf => ?_)
    · subst e_12
      refine mx_catch (nm := "java/util/NoSuchElementException") (pre := []) (suf := []) C rfl rfl (fun r hr => absurd hr List.not_mem_nil) (by decide) (by decide) (mm_in 1244 (by decide +kernel) rfl) (by decide) rfl (by decide) ?_
      show mG _ _ _ _ _ _ _ _ (_, [(0, .ref v0), (1, .int v1), (2, .ref v2)], _, _)
      refine mg_iconst (v := 1) C rfl (by decide) ?_
      exact mh_ireturn C rfl (by omega) (by omega) rfl hf
    exact absurd hf hO_none
def fL_most (N : Nat) (v0 : Nat) (v1 : Int32) (v2 : Nat) (c : mm_C) : mR Int32 := bL_most_0 N v0 v1 v2 c
set_option maxRecDepth 100000 in
theorem wL_most {Z : mm_Z} {d n N : Nat} (hd : 9 ≤ d) (hn : n + 1 < 1000000) {v0 : Nat} {v1 : Int32} {v2 : Nat} {c : mm_C} (hs : (fL_most N v0 v1 v2 c).isSome = true) : mC Z qL_most d 1 6 [.ref v0, .int v1, .ref v2] (n, c) (mP 1 ovI n (fL_most N v0 v1 v2 c)) := by
  refine mC_of gL_most (by decide +kernel) (Nat.le_of_ble_eq_true rfl) fun X C hRm => ?_
  have hf := hO_mP 1 ovI n hs
  have hk : 0 + 1 ≤ 1 := Nat.le_of_ble_eq_true rfl
  have hw : 0 + 6 ≤ 6 := Nat.le_of_ble_eq_true rfl
  show mG _ _ _ _ _ _ _ _ (0, [(0, .ref v0), (1, .int v1), (2, .ref v2)], [], (n, c))
  exact wL_most_0 C hRm hd hn hk hw hf
def bL_order_0 (N : Nat)  (v0 : Nat) (v1 : Int32) (v2 : Nat) (c : mm_C) : mR Int32 :=
  cX 11 v0 c (fX11_order N v0 v1 c) (fun r3 c4 => Option.bind (tL c4 v2 (0 : Int32) r3.toInt64) fun c7 => some (.inl (0 : Int32), c7)) (fun e6 c5 => if e6 = 1 then (some (.inl (1 : Int32), c5)) else (none))
set_option maxRecDepth 100000 in
theorem wL_order_0 {Z : mm_Z} {X : mm_T} {k w mc ms d n N : Nat} {Q : mm_O → mm_H → Prop} (C : mm_Ok Z qL_order X) (hRm : mt_R X = mm_rm d mc ms) (hd : 8 ≤ d) (hn : n + 1 < 1000000) (hk : k + 1 ≤ mc) (hw : w + 6 ≤ ms) {v0 : Nat} {v1 : Int32} {v2 : Nat} {c : mm_C} (hf : hO 1 ovI n (bL_order_0 N  v0 v1 v2 c) Q) : mG Z qL_order X k w mc ms Q (0, [(0, .ref v0), (1, .int v1), (2, .ref v2)], [], (n, c)) := by
  unfold bL_order_0 at hf
  refine mg_aload_n C rfl rfl ?_
  refine mg_iconst (v := 0) C rfl (by decide) ?_
  refine mg_aload_n C rfl rfl ?_
  refine mg_iload_n C rfl rfl ?_
  refine mh_cXI (t := 0) (tn := 0) (kc := 1) (M' := qX11_order) C rfl rfl aX11_order iX11_order sX11_order hRm (by omega) (by decide) (by omega) (by omega) rfl rfl rfl (Nat.le_of_ble_eq_true rfl) hf (fun hs => wX11_order (by omega) (by omega) hs) (fun r3 c4 n hn1 hn2 hf => ?_) (fun e6 c5 n hn1 hn2 hf => ?_)
  · refine mg_i2l C rfl ?_
    refine mh_tL C rfl hf (fun c7 hf => ?_)
    refine mg_goto C rfl ?_
    refine mg_iconst (v := 0) C rfl (by decide) ?_
    exact mh_ireturn C rfl (by omega) (by omega) rfl hf
  · refine mh_catch hf (fun e_12 hf => ?_) (fun hf => ?_)
    · subst e_12
      refine mx_catch (nm := "java/util/NoSuchElementException") (pre := []) (suf := []) C rfl rfl (fun r hr => absurd hr List.not_mem_nil) (by decide) (by decide) (mm_in 1244 (by decide +kernel) rfl) (by decide) rfl (by decide) ?_
      show mG _ _ _ _ _ _ _ _ (_, [(0, .ref v0), (1, .int v1), (2, .ref v2)], _, _)
      refine mg_iconst (v := 1) C rfl (by decide) ?_
      exact mh_ireturn C rfl (by omega) (by omega) rfl hf
    exact absurd hf hO_none
def fL_order (N : Nat) (v0 : Nat) (v1 : Int32) (v2 : Nat) (c : mm_C) : mR Int32 := bL_order_0 N v0 v1 v2 c
set_option maxRecDepth 100000 in
theorem wL_order {Z : mm_Z} {d n N : Nat} (hd : 8 ≤ d) (hn : n + 1 < 1000000) {v0 : Nat} {v1 : Int32} {v2 : Nat} {c : mm_C} (hs : (fL_order N v0 v1 v2 c).isSome = true) : mC Z qL_order d 1 6 [.ref v0, .int v1, .ref v2] (n, c) (mP 1 ovI n (fL_order N v0 v1 v2 c)) := by
  refine mC_of gL_order (by decide +kernel) (Nat.le_of_ble_eq_true rfl) fun X C hRm => ?_
  have hf := hO_mP 1 ovI n hs
  have hk : 0 + 1 ≤ 1 := Nat.le_of_ble_eq_true rfl
  have hw : 0 + 6 ≤ 6 := Nat.le_of_ble_eq_true rfl
  show mG _ _ _ _ _ _ _ _ (0, [(0, .ref v0), (1, .int v1), (2, .ref v2)], [], (n, c))
  exact wL_order_0 C hRm hd hn hk hw hf
def bL_soonest_0 (N : Nat)  (v0 : Nat) (v1 : Int32) (v2 : Nat) (c : mm_C) : mR Int32 :=
  cX 11 v0 c (fX11_soonest N v0 v1 c) (fun r3 c4 => Option.bind (tL c4 v2 (0 : Int32) r3.toInt64) fun c7 => some (.inl (0 : Int32), c7)) (fun e6 c5 => if e6 = 0 then (some (.inl (1 : Int32), c5)) else (none))
set_option maxRecDepth 100000 in
theorem wL_soonest_0 {Z : mm_Z} {X : mm_T} {k w mc ms d n N : Nat} {Q : mm_O → mm_H → Prop} (C : mm_Ok Z qL_soonest X) (hRm : mt_R X = mm_rm d mc ms) (hd : 8 ≤ d) (hn : n + 1 < 1000000) (hk : k + 1 ≤ mc) (hw : w + 6 ≤ ms) {v0 : Nat} {v1 : Int32} {v2 : Nat} {c : mm_C} (hf : hO 1 ovI n (bL_soonest_0 N  v0 v1 v2 c) Q) : mG Z qL_soonest X k w mc ms Q (0, [(0, .ref v0), (1, .int v1), (2, .ref v2)], [], (n, c)) := by
  unfold bL_soonest_0 at hf
  refine mg_aload_n C rfl rfl ?_
  refine mg_iconst (v := 0) C rfl (by decide) ?_
  refine mg_aload_n C rfl rfl ?_
  refine mg_iload_n C rfl rfl ?_
  refine mh_cXI (t := 0) (tn := 0) (kc := 1) (M' := qX11_soonest) C rfl rfl aX11_soonest iX11_soonest sX11_soonest hRm (by omega) (by decide) (by omega) (by omega) rfl rfl rfl (Nat.le_of_ble_eq_true rfl) hf (fun hs => wX11_soonest (by omega) (by omega) hs) (fun r3 c4 n hn1 hn2 hf => ?_) (fun e6 c5 n hn1 hn2 hf => ?_)
  · refine mg_i2l C rfl ?_
    refine mh_tL C rfl hf (fun c7 hf => ?_)
    refine mg_goto C rfl ?_
    refine mg_iconst (v := 0) C rfl (by decide) ?_
    exact mh_ireturn C rfl (by omega) (by omega) rfl hf
  · refine mh_catch hf (fun e_12 hf => ?_) (fun hf => ?_)
    · subst e_12
      refine mx_catch (nm := "java/lang/IllegalArgumentException") (pre := []) (suf := []) C rfl rfl (fun r hr => absurd hr List.not_mem_nil) (by decide) (by decide) (mm_in 904 (by decide +kernel) rfl) (by decide) rfl (by decide) ?_
      show mG _ _ _ _ _ _ _ _ (_, [(0, .ref v0), (1, .int v1), (2, .ref v2)], _, _)
      refine mg_iconst (v := 1) C rfl (by decide) ?_
      exact mh_ireturn C rfl (by omega) (by omega) rfl hf
    exact absurd hf hO_none
def fL_soonest (N : Nat) (v0 : Nat) (v1 : Int32) (v2 : Nat) (c : mm_C) : mR Int32 := bL_soonest_0 N v0 v1 v2 c
set_option maxRecDepth 100000 in
theorem wL_soonest {Z : mm_Z} {d n N : Nat} (hd : 8 ≤ d) (hn : n + 1 < 1000000) {v0 : Nat} {v1 : Int32} {v2 : Nat} {c : mm_C} (hs : (fL_soonest N v0 v1 v2 c).isSome = true) : mC Z qL_soonest d 1 6 [.ref v0, .int v1, .ref v2] (n, c) (mP 1 ovI n (fL_soonest N v0 v1 v2 c)) := by
  refine mC_of gL_soonest (by decide +kernel) (Nat.le_of_ble_eq_true rfl) fun X C hRm => ?_
  have hf := hO_mP 1 ovI n hs
  have hk : 0 + 1 ≤ 1 := Nat.le_of_ble_eq_true rfl
  have hw : 0 + 6 ≤ 6 := Nat.le_of_ble_eq_true rfl
  show mG _ _ _ _ _ _ _ _ (0, [(0, .ref v0), (1, .int v1), (2, .ref v2)], [], (n, c))
  exact wL_soonest_0 C hRm hd hn hk hw hf
def bL_worth_0 (N : Nat)  (v0 : Nat) (v1 : Int32) (v2 : Nat) (c : mm_C) : mR Int32 :=
  cX 11 v0 c (fX11_worth N v0 v1 c) (fun r3 c4 => Option.bind (tL c4 v2 (0 : Int32) r3.toInt64) fun c7 => some (.inl (0 : Int32), c7)) (fun e6 c5 => if e6 = 1 then (some (.inl (1 : Int32), c5)) else (none))
set_option maxRecDepth 100000 in
theorem wL_worth_0 {Z : mm_Z} {X : mm_T} {k w mc ms d n N : Nat} {Q : mm_O → mm_H → Prop} (C : mm_Ok Z qL_worth X) (hRm : mt_R X = mm_rm d mc ms) (hd : 9 ≤ d) (hn : n + 1 < 1000000) (hk : k + 1 ≤ mc) (hw : w + 6 ≤ ms) {v0 : Nat} {v1 : Int32} {v2 : Nat} {c : mm_C} (hf : hO 1 ovI n (bL_worth_0 N  v0 v1 v2 c) Q) : mG Z qL_worth X k w mc ms Q (0, [(0, .ref v0), (1, .int v1), (2, .ref v2)], [], (n, c)) := by
  unfold bL_worth_0 at hf
  refine mg_aload_n C rfl rfl ?_
  refine mg_iconst (v := 0) C rfl (by decide) ?_
  refine mg_aload_n C rfl rfl ?_
  refine mg_iload_n C rfl rfl ?_
  refine mh_cXI (t := 0) (tn := 0) (kc := 1) (M' := qX11_worth) C rfl rfl aX11_worth iX11_worth sX11_worth hRm (by omega) (by decide) (by omega) (by omega) rfl rfl rfl (Nat.le_of_ble_eq_true rfl) hf (fun hs => wX11_worth (by omega) (by omega) hs) (fun r3 c4 n hn1 hn2 hf => ?_) (fun e6 c5 n hn1 hn2 hf => ?_)
  · refine mg_i2l C rfl ?_
    refine mh_tL C rfl hf (fun c7 hf => ?_)
    refine mg_goto C rfl ?_
    refine mg_iconst (v := 0) C rfl (by decide) ?_
    exact mh_ireturn C rfl (by omega) (by omega) rfl hf
  · refine mh_catch hf (fun e_12 hf => ?_) (fun hf => ?_)
    · subst e_12
      refine mx_catch (nm := "java/util/NoSuchElementException") (pre := []) (suf := []) C rfl rfl (fun r hr => absurd hr List.not_mem_nil) (by decide) (by decide) (mm_in 1244 (by decide +kernel) rfl) (by decide) rfl (by decide) ?_
      show mG _ _ _ _ _ _ _ _ (_, [(0, .ref v0), (1, .int v1), (2, .ref v2)], _, _)
      refine mg_iconst (v := 1) C rfl (by decide) ?_
      exact mh_ireturn C rfl (by omega) (by omega) rfl hf
    exact absurd hf hO_none
def fL_worth (N : Nat) (v0 : Nat) (v1 : Int32) (v2 : Nat) (c : mm_C) : mR Int32 := bL_worth_0 N v0 v1 v2 c
set_option maxRecDepth 100000 in
theorem wL_worth {Z : mm_Z} {d n N : Nat} (hd : 9 ≤ d) (hn : n + 1 < 1000000) {v0 : Nat} {v1 : Int32} {v2 : Nat} {c : mm_C} (hs : (fL_worth N v0 v1 v2 c).isSome = true) : mC Z qL_worth d 1 6 [.ref v0, .int v1, .ref v2] (n, c) (mP 1 ovI n (fL_worth N v0 v1 v2 c)) := by
  refine mC_of gL_worth (by decide +kernel) (Nat.le_of_ble_eq_true rfl) fun X C hRm => ?_
  have hf := hO_mP 1 ovI n hs
  have hk : 0 + 1 ≤ 1 := Nat.le_of_ble_eq_true rfl
  have hw : 0 + 6 ≤ 6 := Nat.le_of_ble_eq_true rfl
  show mG _ _ _ _ _ _ _ _ (0, [(0, .ref v0), (1, .int v1), (2, .ref v2)], [], (n, c))
  exact wL_worth_0 C hRm hd hn hk hw hf
def bL_chances_0 (N : Nat)  (v0 : Nat) (v1 : Int32) (v2 : Int32) (v3 : Nat) (c : mm_C) : mR Int32 :=
  cX 11 v0 c (fX11_chances N v0 v1 v2 c) (fun r3 c4 => Option.bind (tL c4 v3 (0 : Int32) r3.toInt64) fun c7 => some (.inl (0 : Int32), c7)) (fun e6 c5 => if e6 = 1 then (some (.inl (1 : Int32), c5)) else (none))
set_option maxRecDepth 100000 in
theorem wL_chances_0 {Z : mm_Z} {X : mm_T} {k w mc ms d n N : Nat} {Q : mm_O → mm_H → Prop} (C : mm_Ok Z qL_chances X) (hRm : mt_R X = mm_rm d mc ms) (hd : 9 ≤ d) (hn : n + 1 < 1000000) (hk : k + 1 ≤ mc) (hw : w + 6 ≤ ms) {v0 : Nat} {v1 : Int32} {v2 : Int32} {v3 : Nat} {c : mm_C} (hf : hO 1 ovI n (bL_chances_0 N  v0 v1 v2 v3 c) Q) : mG Z qL_chances X k w mc ms Q (0, [(0, .ref v0), (1, .int v1), (2, .int v2), (3, .ref v3)], [], (n, c)) := by
  unfold bL_chances_0 at hf
  refine mg_aload_n C rfl rfl ?_
  refine mg_iconst (v := 0) C rfl (by decide) ?_
  refine mg_aload_n C rfl rfl ?_
  refine mg_iload_n C rfl rfl ?_
  refine mg_iload_n C rfl rfl ?_
  refine mh_cXI (t := 0) (tn := 0) (kc := 1) (M' := qX11_chances) C rfl rfl aX11_chances iX11_chances sX11_chances hRm (by omega) (by decide) (by omega) (by omega) rfl rfl rfl (Nat.le_of_ble_eq_true rfl) hf (fun hs => wX11_chances (by omega) (by omega) hs) (fun r3 c4 n hn1 hn2 hf => ?_) (fun e6 c5 n hn1 hn2 hf => ?_)
  · refine mg_i2l C rfl ?_
    refine mh_tL C rfl hf (fun c7 hf => ?_)
    refine mg_goto C rfl ?_
    refine mg_iconst (v := 0) C rfl (by decide) ?_
    exact mh_ireturn C rfl (by omega) (by omega) rfl hf
  · refine mh_catch hf (fun e_13 hf => ?_) (fun hf => ?_)
    · subst e_13
      refine mx_catchW (nm := "java/util/NoSuchElementException") (pre := []) (suf := []) C rfl rfl (fun r hr => absurd hr List.not_mem_nil) (by decide) (by decide) (mm_in 1244 (by decide +kernel) rfl) (by decide) rfl (by decide) ?_
      show mG _ _ _ _ _ _ _ _ (_, [(0, .ref v0), (1, .int v1), (2, .int v2), (3, .ref v3)], _, _)
      refine mg_iconst (v := 1) C rfl (by decide) ?_
      exact mh_ireturn C rfl (by omega) (by omega) rfl hf
    exact absurd hf hO_none
def fL_chances (N : Nat) (v0 : Nat) (v1 : Int32) (v2 : Int32) (v3 : Nat) (c : mm_C) : mR Int32 := bL_chances_0 N v0 v1 v2 v3 c
set_option maxRecDepth 100000 in
theorem wL_chances {Z : mm_Z} {d n N : Nat} (hd : 9 ≤ d) (hn : n + 1 < 1000000) {v0 : Nat} {v1 : Int32} {v2 : Int32} {v3 : Nat} {c : mm_C} (hs : (fL_chances N v0 v1 v2 v3 c).isSome = true) : mC Z qL_chances d 1 6 [.ref v0, .int v1, .int v2, .ref v3] (n, c) (mP 1 ovI n (fL_chances N v0 v1 v2 v3 c)) := by
  refine mC_of gL_chances (by decide +kernel) (Nat.le_of_ble_eq_true rfl) fun X C hRm => ?_
  have hf := hO_mP 1 ovI n hs
  have hk : 0 + 1 ≤ 1 := Nat.le_of_ble_eq_true rfl
  have hw : 0 + 6 ≤ 6 := Nat.le_of_ble_eq_true rfl
  show mG _ _ _ _ _ _ _ _ (0, [(0, .ref v0), (1, .int v1), (2, .int v2), (3, .ref v3)], [], (n, c))
  exact wL_chances_0 C hRm hd hn hk hw hf
def bL_without_0 (N : Nat)  (v0 : Nat) (v1 : Int32) (v2 : Nat) (c : mm_C) : mR Int32 :=
  cX 11 v0 c (fX11_without N v0 v1 c) (fun r3 c4 => Option.bind (tL c4 v2 (0 : Int32) r3.toInt64) fun c7 => some (.inl (0 : Int32), c7)) (fun e6 c5 => if e6 = 1 then (some (.inl (1 : Int32), c5)) else (none))
set_option maxRecDepth 100000 in
theorem wL_without_0 {Z : mm_Z} {X : mm_T} {k w mc ms d n N : Nat} {Q : mm_O → mm_H → Prop} (C : mm_Ok Z qL_without X) (hRm : mt_R X = mm_rm d mc ms) (hd : 9 ≤ d) (hn : n + 1 < 1000000) (hk : k + 1 ≤ mc) (hw : w + 6 ≤ ms) {v0 : Nat} {v1 : Int32} {v2 : Nat} {c : mm_C} (hf : hO 1 ovI n (bL_without_0 N  v0 v1 v2 c) Q) : mG Z qL_without X k w mc ms Q (0, [(0, .ref v0), (1, .int v1), (2, .ref v2)], [], (n, c)) := by
  unfold bL_without_0 at hf
  refine mg_aload_n C rfl rfl ?_
  refine mg_iconst (v := 0) C rfl (by decide) ?_
  refine mg_aload_n C rfl rfl ?_
  refine mg_iload_n C rfl rfl ?_
  refine mh_cXI (t := 0) (tn := 0) (kc := 1) (M' := qX11_without) C rfl rfl aX11_without iX11_without sX11_without hRm (by omega) (by decide) (by omega) (by omega) rfl rfl rfl (Nat.le_of_ble_eq_true rfl) hf (fun hs => wX11_without (by omega) (by omega) hs) (fun r3 c4 n hn1 hn2 hf => ?_) (fun e6 c5 n hn1 hn2 hf => ?_)
  · refine mg_i2l C rfl ?_
    refine mh_tL C rfl hf (fun c7 hf => ?_)
    refine mg_goto C rfl ?_
    refine mg_iconst (v := 0) C rfl (by decide) ?_
    exact mh_ireturn C rfl (by omega) (by omega) rfl hf
  · refine mh_catch hf (fun e_12 hf => ?_) (fun hf => ?_)
    · subst e_12
      refine mx_catch (nm := "java/util/NoSuchElementException") (pre := []) (suf := []) C rfl rfl (fun r hr => absurd hr List.not_mem_nil) (by decide) (by decide) (mm_in 1244 (by decide +kernel) rfl) (by decide) rfl (by decide) ?_
      show mG _ _ _ _ _ _ _ _ (_, [(0, .ref v0), (1, .int v1), (2, .ref v2)], _, _)
      refine mg_iconst (v := 1) C rfl (by decide) ?_
      exact mh_ireturn C rfl (by omega) (by omega) rfl hf
    exact absurd hf hO_none
def fL_without (N : Nat) (v0 : Nat) (v1 : Int32) (v2 : Nat) (c : mm_C) : mR Int32 := bL_without_0 N v0 v1 v2 c
set_option maxRecDepth 100000 in
theorem wL_without {Z : mm_Z} {d n N : Nat} (hd : 9 ≤ d) (hn : n + 1 < 1000000) {v0 : Nat} {v1 : Int32} {v2 : Nat} {c : mm_C} (hs : (fL_without N v0 v1 v2 c).isSome = true) : mC Z qL_without d 1 6 [.ref v0, .int v1, .ref v2] (n, c) (mP 1 ovI n (fL_without N v0 v1 v2 c)) := by
  refine mC_of gL_without (by decide +kernel) (Nat.le_of_ble_eq_true rfl) fun X C hRm => ?_
  have hf := hO_mP 1 ovI n hs
  have hk : 0 + 1 ≤ 1 := Nat.le_of_ble_eq_true rfl
  have hw : 0 + 6 ≤ 6 := Nat.le_of_ble_eq_true rfl
  show mG _ _ _ _ _ _ _ _ (0, [(0, .ref v0), (1, .int v1), (2, .ref v2)], [], (n, c))
  exact wL_without_0 C hRm hd hn hk hw hf
def bL_shorter_0 (N : Nat)  (v0 : Nat) (v1 : Int32) (v2 : Nat) (c : mm_C) : mR Int32 :=
  cX 11 v0 c (fX11_shorter N v0 v1 c) (fun r3 c4 => Option.bind (tL c4 v2 (0 : Int32) r3.toInt64) fun c7 => some (.inl (0 : Int32), c7)) (fun e6 c5 => if e6 = 0 then (some (.inl (1 : Int32), c5)) else (none))
set_option maxRecDepth 100000 in
theorem wL_shorter_0 {Z : mm_Z} {X : mm_T} {k w mc ms d n N : Nat} {Q : mm_O → mm_H → Prop} (C : mm_Ok Z qL_shorter X) (hRm : mt_R X = mm_rm d mc ms) (hd : 8 ≤ d) (hn : n + 1 < 1000000) (hk : k + 1 ≤ mc) (hw : w + 6 ≤ ms) {v0 : Nat} {v1 : Int32} {v2 : Nat} {c : mm_C} (hf : hO 1 ovI n (bL_shorter_0 N  v0 v1 v2 c) Q) : mG Z qL_shorter X k w mc ms Q (0, [(0, .ref v0), (1, .int v1), (2, .ref v2)], [], (n, c)) := by
  unfold bL_shorter_0 at hf
  refine mg_aload_n C rfl rfl ?_
  refine mg_iconst (v := 0) C rfl (by decide) ?_
  refine mg_aload_n C rfl rfl ?_
  refine mg_iload_n C rfl rfl ?_
  refine mh_cXI (t := 0) (tn := 0) (kc := 1) (M' := qX11_shorter) C rfl rfl aX11_shorter iX11_shorter sX11_shorter hRm (by omega) (by decide) (by omega) (by omega) rfl rfl rfl (Nat.le_of_ble_eq_true rfl) hf (fun hs => wX11_shorter (by omega) (by omega) hs) (fun r3 c4 n hn1 hn2 hf => ?_) (fun e6 c5 n hn1 hn2 hf => ?_)
  · refine mg_i2l C rfl ?_
    refine mh_tL C rfl hf (fun c7 hf => ?_)
    refine mg_goto C rfl ?_
    refine mg_iconst (v := 0) C rfl (by decide) ?_
    exact mh_ireturn C rfl (by omega) (by omega) rfl hf
  · refine mh_catch hf (fun e_12 hf => ?_) (fun hf => ?_)
    · subst e_12
      refine mx_catch (nm := "java/lang/IllegalArgumentException") (pre := []) (suf := []) C rfl rfl (fun r hr => absurd hr List.not_mem_nil) (by decide) (by decide) (mm_in 904 (by decide +kernel) rfl) (by decide) rfl (by decide) ?_
      show mG _ _ _ _ _ _ _ _ (_, [(0, .ref v0), (1, .int v1), (2, .ref v2)], _, _)
      refine mg_iconst (v := 1) C rfl (by decide) ?_
      exact mh_ireturn C rfl (by omega) (by omega) rfl hf
    exact absurd hf hO_none
def fL_shorter (N : Nat) (v0 : Nat) (v1 : Int32) (v2 : Nat) (c : mm_C) : mR Int32 := bL_shorter_0 N v0 v1 v2 c
set_option maxRecDepth 100000 in
theorem wL_shorter {Z : mm_Z} {d n N : Nat} (hd : 8 ≤ d) (hn : n + 1 < 1000000) {v0 : Nat} {v1 : Int32} {v2 : Nat} {c : mm_C} (hs : (fL_shorter N v0 v1 v2 c).isSome = true) : mC Z qL_shorter d 1 6 [.ref v0, .int v1, .ref v2] (n, c) (mP 1 ovI n (fL_shorter N v0 v1 v2 c)) := by
  refine mC_of gL_shorter (by decide +kernel) (Nat.le_of_ble_eq_true rfl) fun X C hRm => ?_
  have hf := hO_mP 1 ovI n hs
  have hk : 0 + 1 ≤ 1 := Nat.le_of_ble_eq_true rfl
  have hw : 0 + 6 ≤ 6 := Nat.le_of_ble_eq_true rfl
  show mG _ _ _ _ _ _ _ _ (0, [(0, .ref v0), (1, .int v1), (2, .ref v2)], [], (n, c))
  exact wL_shorter_0 C hRm hd hn hk hw hf
def bL_idle_0 (N : Nat)  (v0 : Nat) (v1 : Int32) (v2 : Int32) (v3 : Nat) (c : mm_C) : mR Int32 :=
  cX 11 v0 c (fX11_idle N v0 v1 v2 c) (fun r3 c4 => Option.bind (tL c4 v3 (0 : Int32) r3.toInt64) fun c7 => some (.inl (0 : Int32), c7)) (fun e6 c5 => if e6 = 1 then (some (.inl (1 : Int32), c5)) else (none))
set_option maxRecDepth 100000 in
theorem wL_idle_0 {Z : mm_Z} {X : mm_T} {k w mc ms d n N : Nat} {Q : mm_O → mm_H → Prop} (C : mm_Ok Z qL_idle X) (hRm : mt_R X = mm_rm d mc ms) (hd : 9 ≤ d) (hn : n + 1 < 1000000) (hk : k + 1 ≤ mc) (hw : w + 6 ≤ ms) {v0 : Nat} {v1 : Int32} {v2 : Int32} {v3 : Nat} {c : mm_C} (hf : hO 1 ovI n (bL_idle_0 N  v0 v1 v2 v3 c) Q) : mG Z qL_idle X k w mc ms Q (0, [(0, .ref v0), (1, .int v1), (2, .int v2), (3, .ref v3)], [], (n, c)) := by
  unfold bL_idle_0 at hf
  refine mg_aload_n C rfl rfl ?_
  refine mg_iconst (v := 0) C rfl (by decide) ?_
  refine mg_aload_n C rfl rfl ?_
  refine mg_iload_n C rfl rfl ?_
  refine mg_iload_n C rfl rfl ?_
  refine mh_cXI (t := 0) (tn := 0) (kc := 1) (M' := qX11_idle) C rfl rfl aX11_idle iX11_idle sX11_idle hRm (by omega) (by decide) (by omega) (by omega) rfl rfl rfl (Nat.le_of_ble_eq_true rfl) hf (fun hs => wX11_idle (by omega) (by omega) hs) (fun r3 c4 n hn1 hn2 hf => ?_) (fun e6 c5 n hn1 hn2 hf => ?_)
  · refine mg_i2l C rfl ?_
    refine mh_tL C rfl hf (fun c7 hf => ?_)
    refine mg_goto C rfl ?_
    refine mg_iconst (v := 0) C rfl (by decide) ?_
    exact mh_ireturn C rfl (by omega) (by omega) rfl hf
  · refine mh_catch hf (fun e_13 hf => ?_) (fun hf => ?_)
    · subst e_13
      refine mx_catchW (nm := "java/util/NoSuchElementException") (pre := []) (suf := []) C rfl rfl (fun r hr => absurd hr List.not_mem_nil) (by decide) (by decide) (mm_in 1244 (by decide +kernel) rfl) (by decide) rfl (by decide) ?_
      show mG _ _ _ _ _ _ _ _ (_, [(0, .ref v0), (1, .int v1), (2, .int v2), (3, .ref v3)], _, _)
      refine mg_iconst (v := 1) C rfl (by decide) ?_
      exact mh_ireturn C rfl (by omega) (by omega) rfl hf
    exact absurd hf hO_none
def fL_idle (N : Nat) (v0 : Nat) (v1 : Int32) (v2 : Int32) (v3 : Nat) (c : mm_C) : mR Int32 := bL_idle_0 N v0 v1 v2 v3 c
set_option maxRecDepth 100000 in
theorem wL_idle {Z : mm_Z} {d n N : Nat} (hd : 9 ≤ d) (hn : n + 1 < 1000000) {v0 : Nat} {v1 : Int32} {v2 : Int32} {v3 : Nat} {c : mm_C} (hs : (fL_idle N v0 v1 v2 v3 c).isSome = true) : mC Z qL_idle d 1 6 [.ref v0, .int v1, .int v2, .ref v3] (n, c) (mP 1 ovI n (fL_idle N v0 v1 v2 v3 c)) := by
  refine mC_of gL_idle (by decide +kernel) (Nat.le_of_ble_eq_true rfl) fun X C hRm => ?_
  have hf := hO_mP 1 ovI n hs
  have hk : 0 + 1 ≤ 1 := Nat.le_of_ble_eq_true rfl
  have hw : 0 + 6 ≤ 6 := Nat.le_of_ble_eq_true rfl
  show mG _ _ _ _ _ _ _ _ (0, [(0, .ref v0), (1, .int v1), (2, .int v2), (3, .ref v3)], [], (n, c))
  exact wL_idle_0 C hRm hd hn hk hw hf
def bL_holes_0 (N : Nat)  (v0 : Nat) (v1 : Int32) (v2 : Nat) (c : mm_C) : mR Int32 :=
  cX 11 v0 c (fX11_holes N v0 v1 c) (fun r3 c4 => Option.bind (tL c4 v2 (0 : Int32) r3.toInt64) fun c7 => some (.inl (0 : Int32), c7)) (fun e6 c5 => if e6 = 0 then (some (.inl (1 : Int32), c5)) else (none))
set_option maxRecDepth 100000 in
theorem wL_holes_0 {Z : mm_Z} {X : mm_T} {k w mc ms d n N : Nat} {Q : mm_O → mm_H → Prop} (C : mm_Ok Z qL_holes X) (hRm : mt_R X = mm_rm d mc ms) (hd : 8 ≤ d) (hn : n + 1 < 1000000) (hk : k + 1 ≤ mc) (hw : w + 6 ≤ ms) {v0 : Nat} {v1 : Int32} {v2 : Nat} {c : mm_C} (hf : hO 1 ovI n (bL_holes_0 N  v0 v1 v2 c) Q) : mG Z qL_holes X k w mc ms Q (0, [(0, .ref v0), (1, .int v1), (2, .ref v2)], [], (n, c)) := by
  unfold bL_holes_0 at hf
  refine mg_aload_n C rfl rfl ?_
  refine mg_iconst (v := 0) C rfl (by decide) ?_
  refine mg_aload_n C rfl rfl ?_
  refine mg_iload_n C rfl rfl ?_
  refine mh_cXI (t := 0) (tn := 0) (kc := 1) (M' := qX11_holes) C rfl rfl aX11_holes iX11_holes sX11_holes hRm (by omega) (by decide) (by omega) (by omega) rfl rfl rfl (Nat.le_of_ble_eq_true rfl) hf (fun hs => wX11_holes (by omega) (by omega) hs) (fun r3 c4 n hn1 hn2 hf => ?_) (fun e6 c5 n hn1 hn2 hf => ?_)
  · refine mg_i2l C rfl ?_
    refine mh_tL C rfl hf (fun c7 hf => ?_)
    refine mg_goto C rfl ?_
    refine mg_iconst (v := 0) C rfl (by decide) ?_
    exact mh_ireturn C rfl (by omega) (by omega) rfl hf
  · refine mh_catch hf (fun e_12 hf => ?_) (fun hf => ?_)
    · subst e_12
      refine mx_catch (nm := "java/lang/IllegalArgumentException") (pre := []) (suf := []) C rfl rfl (fun r hr => absurd hr List.not_mem_nil) (by decide) (by decide) (mm_in 904 (by decide +kernel) rfl) (by decide) rfl (by decide) ?_
      show mG _ _ _ _ _ _ _ _ (_, [(0, .ref v0), (1, .int v1), (2, .ref v2)], _, _)
      refine mg_iconst (v := 1) C rfl (by decide) ?_
      exact mh_ireturn C rfl (by omega) (by omega) rfl hf
    exact absurd hf hO_none
def fL_holes (N : Nat) (v0 : Nat) (v1 : Int32) (v2 : Nat) (c : mm_C) : mR Int32 := bL_holes_0 N v0 v1 v2 c
set_option maxRecDepth 100000 in
theorem wL_holes {Z : mm_Z} {d n N : Nat} (hd : 8 ≤ d) (hn : n + 1 < 1000000) {v0 : Nat} {v1 : Int32} {v2 : Nat} {c : mm_C} (hs : (fL_holes N v0 v1 v2 c).isSome = true) : mC Z qL_holes d 1 6 [.ref v0, .int v1, .ref v2] (n, c) (mP 1 ovI n (fL_holes N v0 v1 v2 c)) := by
  refine mC_of gL_holes (by decide +kernel) (Nat.le_of_ble_eq_true rfl) fun X C hRm => ?_
  have hf := hO_mP 1 ovI n hs
  have hk : 0 + 1 ≤ 1 := Nat.le_of_ble_eq_true rfl
  have hw : 0 + 6 ≤ 6 := Nat.le_of_ble_eq_true rfl
  show mG _ _ _ _ _ _ _ _ (0, [(0, .ref v0), (1, .int v1), (2, .ref v2)], [], (n, c))
  exact wL_holes_0 C hRm hd hn hk hw hf
def bL_hole_0 (N : Nat)  (v0 : Nat) (v1 : Int32) (v2 : Nat) (c : mm_C) : mR Int32 :=
  cX 11 v0 c (fX11_hole N v0 v1 c) (fun r3 c4 => Option.bind (tL c4 v2 (0 : Int32) r3.toInt64) fun c7 => some (.inl (0 : Int32), c7)) (fun e6 c5 => if e6 = 1 then (some (.inl (1 : Int32), c5)) else (none))
set_option maxRecDepth 100000 in
theorem wL_hole_0 {Z : mm_Z} {X : mm_T} {k w mc ms d n N : Nat} {Q : mm_O → mm_H → Prop} (C : mm_Ok Z qL_hole X) (hRm : mt_R X = mm_rm d mc ms) (hd : 9 ≤ d) (hn : n + 1 < 1000000) (hk : k + 1 ≤ mc) (hw : w + 6 ≤ ms) {v0 : Nat} {v1 : Int32} {v2 : Nat} {c : mm_C} (hf : hO 1 ovI n (bL_hole_0 N  v0 v1 v2 c) Q) : mG Z qL_hole X k w mc ms Q (0, [(0, .ref v0), (1, .int v1), (2, .ref v2)], [], (n, c)) := by
  unfold bL_hole_0 at hf
  refine mg_aload_n C rfl rfl ?_
  refine mg_iconst (v := 0) C rfl (by decide) ?_
  refine mg_aload_n C rfl rfl ?_
  refine mg_iload_n C rfl rfl ?_
  refine mh_cXI (t := 0) (tn := 0) (kc := 1) (M' := qX11_hole) C rfl rfl aX11_hole iX11_hole sX11_hole hRm (by omega) (by decide) (by omega) (by omega) rfl rfl rfl (Nat.le_of_ble_eq_true rfl) hf (fun hs => wX11_hole (by omega) (by omega) hs) (fun r3 c4 n hn1 hn2 hf => ?_) (fun e6 c5 n hn1 hn2 hf => ?_)
  · refine mg_i2l C rfl ?_
    refine mh_tL C rfl hf (fun c7 hf => ?_)
    refine mg_goto C rfl ?_
    refine mg_iconst (v := 0) C rfl (by decide) ?_
    exact mh_ireturn C rfl (by omega) (by omega) rfl hf
  · refine mh_catch hf (fun e_12 hf => ?_) (fun hf => ?_)
    · subst e_12
      refine mx_catch (nm := "java/util/NoSuchElementException") (pre := []) (suf := []) C rfl rfl (fun r hr => absurd hr List.not_mem_nil) (by decide) (by decide) (mm_in 1244 (by decide +kernel) rfl) (by decide) rfl (by decide) ?_
      show mG _ _ _ _ _ _ _ _ (_, [(0, .ref v0), (1, .int v1), (2, .ref v2)], _, _)
      refine mg_iconst (v := 1) C rfl (by decide) ?_
      exact mh_ireturn C rfl (by omega) (by omega) rfl hf
    exact absurd hf hO_none
def fL_hole (N : Nat) (v0 : Nat) (v1 : Int32) (v2 : Nat) (c : mm_C) : mR Int32 := bL_hole_0 N v0 v1 v2 c
set_option maxRecDepth 100000 in
theorem wL_hole {Z : mm_Z} {d n N : Nat} (hd : 9 ≤ d) (hn : n + 1 < 1000000) {v0 : Nat} {v1 : Int32} {v2 : Nat} {c : mm_C} (hs : (fL_hole N v0 v1 v2 c).isSome = true) : mC Z qL_hole d 1 6 [.ref v0, .int v1, .ref v2] (n, c) (mP 1 ovI n (fL_hole N v0 v1 v2 c)) := by
  refine mC_of gL_hole (by decide +kernel) (Nat.le_of_ble_eq_true rfl) fun X C hRm => ?_
  have hf := hO_mP 1 ovI n hs
  have hk : 0 + 1 ≤ 1 := Nat.le_of_ble_eq_true rfl
  have hw : 0 + 6 ≤ 6 := Nat.le_of_ble_eq_true rfl
  show mG _ _ _ _ _ _ _ _ (0, [(0, .ref v0), (1, .int v1), (2, .ref v2)], [], (n, c))
  exact wL_hole_0 C hRm hd hn hk hw hf
def bL_lasts_0 (N : Nat)  (v0 : Nat) (v1 : Int32) (v2 : Int32) (v3 : Int32) (v4 : Nat) (c : mm_C) : mR Int32 :=
  cX 11 v0 c (fX11_lasts N v0 v1 v2 v3 c) (fun r3 c4 => Option.bind (tL c4 v4 (0 : Int32) r3) fun c7 => some (.inl (0 : Int32), c7)) (fun e6 c5 => if e6 = 1 then (some (.inl (1 : Int32), c5)) else (if e6 = 0 then (some (.inl (2 : Int32), c5)) else (none)))
set_option maxRecDepth 100000 in
theorem wL_lasts_0 {Z : mm_Z} {X : mm_T} {k w mc ms d n N : Nat} {Q : mm_O → mm_H → Prop} (C : mm_Ok Z qL_lasts X) (hRm : mt_R X = mm_rm d mc ms) (hd : 9 ≤ d) (hn : n + 1 < 1000000) (hk : k + 1 ≤ mc) (hw : w + 6 ≤ ms) {v0 : Nat} {v1 : Int32} {v2 : Int32} {v3 : Int32} {v4 : Nat} {c : mm_C} (hf : hO 1 ovI n (bL_lasts_0 N  v0 v1 v2 v3 v4 c) Q) : mG Z qL_lasts X k w mc ms Q (0, [(0, .ref v0), (1, .int v1), (2, .int v2), (3, .int v3), (4, .ref v4)], [], (n, c)) := by
  unfold bL_lasts_0 at hf
  refine mg_aload C rfl rfl ?_
  refine mg_iconst (v := 0) C rfl (by decide) ?_
  refine mg_aload_n C rfl rfl ?_
  refine mg_iload_n C rfl rfl ?_
  refine mg_iload_n C rfl rfl ?_
  refine mg_iload_n C rfl rfl ?_
  refine mh_cXL (t := 0) (tn := 0) (kc := 1) (M' := qX11_lasts) C rfl rfl aX11_lasts iX11_lasts sX11_lasts hRm (by omega) (by decide) (by omega) (by omega) rfl rfl rfl (Nat.le_of_ble_eq_true rfl) hf (fun hs => wX11_lasts (by omega) (by omega) hs) (fun r3 c4 n hn1 hn2 hf => ?_) (fun e6 c5 n hn1 hn2 hf => ?_)
  · refine mh_tL C rfl hf (fun c7 hf => ?_)
    refine mg_goto C rfl ?_
    refine mg_iconst (v := 0) C rfl (by decide) ?_
    exact mh_ireturn C rfl (by omega) (by omega) rfl hf
  · refine mh_catch hf (fun e_14 hf => ?_) (fun hf => ?_)
    · subst e_14
      refine mx_catchW (nm := "java/util/NoSuchElementException") (pre := []) (suf := [(0, 11, 18, 13)]) C rfl rfl (fun r hr => absurd hr List.not_mem_nil) (by decide) (by decide) (mm_in 1244 (by decide +kernel) rfl) (by decide) rfl (by decide) ?_
      show mG _ _ _ _ _ _ _ _ (_, [(0, .ref v0), (1, .int v1), (2, .int v2), (3, .int v3), (4, .ref v4)], _, _)
      refine mg_iconst (v := 1) C rfl (by decide) ?_
      exact mh_ireturn C rfl (by omega) (by omega) rfl hf
    refine mh_catch hf (fun e_18 hf => ?_) (fun hf => ?_)
    · subst e_18
      refine mx_catchW (nm := "java/lang/IllegalArgumentException") (pre := [(0, 11, 14, 18)]) (suf := []) C rfl rfl (fun r hr => by rw [List.mem_singleton.mp hr]; exact Or.inr ⟨by decide, "java/util/NoSuchElementException", mm_in 1244 (by decide +kernel) rfl, by decide⟩) (by decide) (by decide) (mm_in 904 (by decide +kernel) rfl) (by decide) rfl (by decide) ?_
      show mG _ _ _ _ _ _ _ _ (_, [(0, .ref v0), (1, .int v1), (2, .int v2), (3, .int v3), (4, .ref v4)], _, _)
      refine mg_iconst (v := 2) C rfl (by decide) ?_
      exact mh_ireturn C rfl (by omega) (by omega) rfl hf
    exact absurd hf hO_none
def fL_lasts (N : Nat) (v0 : Nat) (v1 : Int32) (v2 : Int32) (v3 : Int32) (v4 : Nat) (c : mm_C) : mR Int32 := bL_lasts_0 N v0 v1 v2 v3 v4 c
set_option maxRecDepth 100000 in
theorem wL_lasts {Z : mm_Z} {d n N : Nat} (hd : 9 ≤ d) (hn : n + 1 < 1000000) {v0 : Nat} {v1 : Int32} {v2 : Int32} {v3 : Int32} {v4 : Nat} {c : mm_C} (hs : (fL_lasts N v0 v1 v2 v3 v4 c).isSome = true) : mC Z qL_lasts d 1 6 [.ref v0, .int v1, .int v2, .int v3, .ref v4] (n, c) (mP 1 ovI n (fL_lasts N v0 v1 v2 v3 v4 c)) := by
  refine mC_of gL_lasts (by decide +kernel) (Nat.le_of_ble_eq_true rfl) fun X C hRm => ?_
  have hf := hO_mP 1 ovI n hs
  have hk : 0 + 1 ≤ 1 := Nat.le_of_ble_eq_true rfl
  have hw : 0 + 6 ≤ 6 := Nat.le_of_ble_eq_true rfl
  show mG _ _ _ _ _ _ _ _ (0, [(0, .ref v0), (1, .int v1), (2, .int v2), (3, .int v3), (4, .ref v4)], [], (n, c))
  exact wL_lasts_0 C hRm hd hn hk hw hf
def bL_trial_0 (N : Nat)  (v0 : Nat) (v1 : Int32) (v2 : Int32) (v3 : Int32) (v4 : Int32) (v5 : Nat) (c : mm_C) : mR Int32 :=
  cX 11 v0 c (fX11_trial N v0 v1 v2 v3 v4 c) (fun r3 c4 => Option.bind (tL c4 v5 (0 : Int32) r3) fun c7 => some (.inl (0 : Int32), c7)) (fun e6 c5 => if e6 = 0 then (some (.inl (1 : Int32), c5)) else (none))
set_option maxRecDepth 100000 in
theorem wL_trial_0 {Z : mm_Z} {X : mm_T} {k w mc ms d n N : Nat} {Q : mm_O → mm_H → Prop} (C : mm_Ok Z qL_trial X) (hRm : mt_R X = mm_rm d mc ms) (hd : 9 ≤ d) (hn : n + 1 < 1000000) (hk : k + 1 ≤ mc) (hw : w + 6 ≤ ms) {v0 : Nat} {v1 : Int32} {v2 : Int32} {v3 : Int32} {v4 : Int32} {v5 : Nat} {c : mm_C} (hf : hO 1 ovI n (bL_trial_0 N  v0 v1 v2 v3 v4 v5 c) Q) : mG Z qL_trial X k w mc ms Q (0, [(0, .ref v0), (1, .int v1), (2, .int v2), (3, .int v3), (4, .int v4), (5, .ref v5)], [], (n, c)) := by
  unfold bL_trial_0 at hf
  refine mg_aload C rfl rfl ?_
  refine mg_iconst (v := 0) C rfl (by decide) ?_
  refine mg_aload_n C rfl rfl ?_
  refine mg_iload_n C rfl rfl ?_
  refine mg_iload_n C rfl rfl ?_
  refine mg_iload_n C rfl rfl ?_
  refine mg_iload C rfl rfl ?_
  refine mh_cXL (t := 0) (tn := 0) (kc := 1) (M' := qX11_trial) C rfl rfl aX11_trial iX11_trial sX11_trial hRm (by omega) (by decide) (by omega) (by omega) rfl rfl rfl (Nat.le_of_ble_eq_true rfl) hf (fun hs => wX11_trial (by omega) (by omega) hs) (fun r3 c4 n hn1 hn2 hf => ?_) (fun e6 c5 n hn1 hn2 hf => ?_)
  · refine mh_tL C rfl hf (fun c7 hf => ?_)
    refine mg_goto C rfl ?_
    refine mg_iconst (v := 0) C rfl (by decide) ?_
    exact mh_ireturn C rfl (by omega) (by omega) rfl hf
  · refine mh_catch hf (fun e_16 hf => ?_) (fun hf => ?_)
    · subst e_16
      refine mx_catchW (nm := "java/lang/IllegalArgumentException") (pre := []) (suf := []) C rfl rfl (fun r hr => absurd hr List.not_mem_nil) (by decide) (by decide) (mm_in 904 (by decide +kernel) rfl) (by decide) rfl (by decide) ?_
      show mG _ _ _ _ _ _ _ _ (_, [(0, .ref v0), (1, .int v1), (2, .int v2), (3, .int v3), (4, .int v4), (5, .ref v5)], _, _)
      refine mg_iconst (v := 1) C rfl (by decide) ?_
      exact mh_ireturn C rfl (by omega) (by omega) rfl hf
    exact absurd hf hO_none
def fL_trial (N : Nat) (v0 : Nat) (v1 : Int32) (v2 : Int32) (v3 : Int32) (v4 : Int32) (v5 : Nat) (c : mm_C) : mR Int32 := bL_trial_0 N v0 v1 v2 v3 v4 v5 c
set_option maxRecDepth 100000 in
theorem wL_trial {Z : mm_Z} {d n N : Nat} (hd : 9 ≤ d) (hn : n + 1 < 1000000) {v0 : Nat} {v1 : Int32} {v2 : Int32} {v3 : Int32} {v4 : Int32} {v5 : Nat} {c : mm_C} (hs : (fL_trial N v0 v1 v2 v3 v4 v5 c).isSome = true) : mC Z qL_trial d 1 6 [.ref v0, .int v1, .int v2, .int v3, .int v4, .ref v5] (n, c) (mP 1 ovI n (fL_trial N v0 v1 v2 v3 v4 v5 c)) := by
  refine mC_of gL_trial (by decide +kernel) (Nat.le_of_ble_eq_true rfl) fun X C hRm => ?_
  have hf := hO_mP 1 ovI n hs
  have hk : 0 + 1 ≤ 1 := Nat.le_of_ble_eq_true rfl
  have hw : 0 + 6 ≤ 6 := Nat.le_of_ble_eq_true rfl
  show mG _ _ _ _ _ _ _ _ (0, [(0, .ref v0), (1, .int v1), (2, .int v2), (3, .int v3), (4, .int v4), (5, .ref v5)], [], (n, c))
  exact wL_trial_0 C hRm hd hn hk hw hf
def bL_see_0 (N : Nat)  (v0 : Nat) (v1 : Int32) (v2 : Int32) (v3 : Int32) (v4 : Nat) (c : mm_C) : mR Int32 :=
  cX 11 v0 c (fX11_see N v0 v1 v2 v3 c) (fun r3 c4 => Option.bind (tL c4 v4 (0 : Int32) r3.toInt64) fun c7 => some (.inl (0 : Int32), c7)) (fun e6 c5 => if e6 = 1 then (some (.inl (1 : Int32), c5)) else (none))
set_option maxRecDepth 100000 in
theorem wL_see_0 {Z : mm_Z} {X : mm_T} {k w mc ms d n N : Nat} {Q : mm_O → mm_H → Prop} (C : mm_Ok Z qL_see X) (hRm : mt_R X = mm_rm d mc ms) (hd : 9 ≤ d) (hn : n + 1 < 1000000) (hk : k + 1 ≤ mc) (hw : w + 6 ≤ ms) {v0 : Nat} {v1 : Int32} {v2 : Int32} {v3 : Int32} {v4 : Nat} {c : mm_C} (hf : hO 1 ovI n (bL_see_0 N  v0 v1 v2 v3 v4 c) Q) : mG Z qL_see X k w mc ms Q (0, [(0, .ref v0), (1, .int v1), (2, .int v2), (3, .int v3), (4, .ref v4)], [], (n, c)) := by
  unfold bL_see_0 at hf
  refine mg_aload C rfl rfl ?_
  refine mg_iconst (v := 0) C rfl (by decide) ?_
  refine mg_aload_n C rfl rfl ?_
  refine mg_iload_n C rfl rfl ?_
  refine mg_iload_n C rfl rfl ?_
  refine mg_iload_n C rfl rfl ?_
  refine mh_cXI (t := 0) (tn := 0) (kc := 1) (M' := qX11_see) C rfl rfl aX11_see iX11_see sX11_see hRm (by omega) (by decide) (by omega) (by omega) rfl rfl rfl (Nat.le_of_ble_eq_true rfl) hf (fun hs => wX11_see (by omega) (by omega) hs) (fun r3 c4 n hn1 hn2 hf => ?_) (fun e6 c5 n hn1 hn2 hf => ?_)
  · refine mg_i2l C rfl ?_
    refine mh_tL C rfl hf (fun c7 hf => ?_)
    refine mg_goto C rfl ?_
    refine mg_iconst (v := 0) C rfl (by decide) ?_
    exact mh_ireturn C rfl (by omega) (by omega) rfl hf
  · refine mh_catch hf (fun e_15 hf => ?_) (fun hf => ?_)
    · subst e_15
      refine mx_catchW (nm := "java/util/NoSuchElementException") (pre := []) (suf := []) C rfl rfl (fun r hr => absurd hr List.not_mem_nil) (by decide) (by decide) (mm_in 1244 (by decide +kernel) rfl) (by decide) rfl (by decide) ?_
      show mG _ _ _ _ _ _ _ _ (_, [(0, .ref v0), (1, .int v1), (2, .int v2), (3, .int v3), (4, .ref v4)], _, _)
      refine mg_iconst (v := 1) C rfl (by decide) ?_
      exact mh_ireturn C rfl (by omega) (by omega) rfl hf
    exact absurd hf hO_none
def fL_see (N : Nat) (v0 : Nat) (v1 : Int32) (v2 : Int32) (v3 : Int32) (v4 : Nat) (c : mm_C) : mR Int32 := bL_see_0 N v0 v1 v2 v3 v4 c
set_option maxRecDepth 100000 in
theorem wL_see {Z : mm_Z} {d n N : Nat} (hd : 9 ≤ d) (hn : n + 1 < 1000000) {v0 : Nat} {v1 : Int32} {v2 : Int32} {v3 : Int32} {v4 : Nat} {c : mm_C} (hs : (fL_see N v0 v1 v2 v3 v4 c).isSome = true) : mC Z qL_see d 1 6 [.ref v0, .int v1, .int v2, .int v3, .ref v4] (n, c) (mP 1 ovI n (fL_see N v0 v1 v2 v3 v4 c)) := by
  refine mC_of gL_see (by decide +kernel) (Nat.le_of_ble_eq_true rfl) fun X C hRm => ?_
  have hf := hO_mP 1 ovI n hs
  have hk : 0 + 1 ≤ 1 := Nat.le_of_ble_eq_true rfl
  have hw : 0 + 6 ≤ 6 := Nat.le_of_ble_eq_true rfl
  show mG _ _ _ _ _ _ _ _ (0, [(0, .ref v0), (1, .int v1), (2, .int v2), (3, .int v3), (4, .ref v4)], [], (n, c))
  exact wL_see_0 C hRm hd hn hk hw hf
def bL_week_0 (N : Nat)  (v0 : Nat) (v1 : Int32) (v2 : Int32) (v3 : Int32) (v4 : Int32) (v5 : Nat) (c : mm_C) : mR Int32 :=
  cX 11 v0 c (fX11_week N v0 v1 v2 v3 v4 c) (fun r3 c4 => Option.bind (tL c4 v5 (0 : Int32) r3.toInt64) fun c7 => some (.inl (0 : Int32), c7)) (fun e6 c5 => if e6 = 1 then (some (.inl (1 : Int32), c5)) else (if e6 = 0 then (some (.inl (2 : Int32), c5)) else (none)))
set_option maxRecDepth 100000 in
theorem wL_week_0 {Z : mm_Z} {X : mm_T} {k w mc ms d n N : Nat} {Q : mm_O → mm_H → Prop} (C : mm_Ok Z qL_week X) (hRm : mt_R X = mm_rm d mc ms) (hd : 9 ≤ d) (hn : n + 1 < 1000000) (hk : k + 1 ≤ mc) (hw : w + 6 ≤ ms) {v0 : Nat} {v1 : Int32} {v2 : Int32} {v3 : Int32} {v4 : Int32} {v5 : Nat} {c : mm_C} (hf : hO 1 ovI n (bL_week_0 N  v0 v1 v2 v3 v4 v5 c) Q) : mG Z qL_week X k w mc ms Q (0, [(0, .ref v0), (1, .int v1), (2, .int v2), (3, .int v3), (4, .int v4), (5, .ref v5)], [], (n, c)) := by
  unfold bL_week_0 at hf
  refine mg_aload C rfl rfl ?_
  refine mg_iconst (v := 0) C rfl (by decide) ?_
  refine mg_aload_n C rfl rfl ?_
  refine mg_iload_n C rfl rfl ?_
  refine mg_iload_n C rfl rfl ?_
  refine mg_iload_n C rfl rfl ?_
  refine mg_iload C rfl rfl ?_
  refine mh_cXI (t := 0) (tn := 0) (kc := 1) (M' := qX11_week) C rfl rfl aX11_week iX11_week sX11_week hRm (by omega) (by decide) (by omega) (by omega) rfl rfl rfl (Nat.le_of_ble_eq_true rfl) hf (fun hs => wX11_week (by omega) (by omega) hs) (fun r3 c4 n hn1 hn2 hf => ?_) (fun e6 c5 n hn1 hn2 hf => ?_)
  · refine mg_i2l C rfl ?_
    refine mh_tL C rfl hf (fun c7 hf => ?_)
    refine mg_goto C rfl ?_
    refine mg_iconst (v := 0) C rfl (by decide) ?_
    exact mh_ireturn C rfl (by omega) (by omega) rfl hf
  · refine mh_catch hf (fun e_17 hf => ?_) (fun hf => ?_)
    · subst e_17
      refine mx_catchW (nm := "java/util/NoSuchElementException") (pre := []) (suf := [(0, 14, 21, 13)]) C rfl rfl (fun r hr => absurd hr List.not_mem_nil) (by decide) (by decide) (mm_in 1244 (by decide +kernel) rfl) (by decide) rfl (by decide) ?_
      show mG _ _ _ _ _ _ _ _ (_, [(0, .ref v0), (1, .int v1), (2, .int v2), (3, .int v3), (4, .int v4), (5, .ref v5)], _, _)
      refine mg_iconst (v := 1) C rfl (by decide) ?_
      exact mh_ireturn C rfl (by omega) (by omega) rfl hf
    refine mh_catch hf (fun e_21 hf => ?_) (fun hf => ?_)
    · subst e_21
      refine mx_catchW (nm := "java/lang/IllegalArgumentException") (pre := [(0, 14, 17, 18)]) (suf := []) C rfl rfl (fun r hr => by rw [List.mem_singleton.mp hr]; exact Or.inr ⟨by decide, "java/util/NoSuchElementException", mm_in 1244 (by decide +kernel) rfl, by decide⟩) (by decide) (by decide) (mm_in 904 (by decide +kernel) rfl) (by decide) rfl (by decide) ?_
      show mG _ _ _ _ _ _ _ _ (_, [(0, .ref v0), (1, .int v1), (2, .int v2), (3, .int v3), (4, .int v4), (5, .ref v5)], _, _)
      refine mg_iconst (v := 2) C rfl (by decide) ?_
      exact mh_ireturn C rfl (by omega) (by omega) rfl hf
    exact absurd hf hO_none
def fL_week (N : Nat) (v0 : Nat) (v1 : Int32) (v2 : Int32) (v3 : Int32) (v4 : Int32) (v5 : Nat) (c : mm_C) : mR Int32 := bL_week_0 N v0 v1 v2 v3 v4 v5 c
set_option maxRecDepth 100000 in
theorem wL_week {Z : mm_Z} {d n N : Nat} (hd : 9 ≤ d) (hn : n + 1 < 1000000) {v0 : Nat} {v1 : Int32} {v2 : Int32} {v3 : Int32} {v4 : Int32} {v5 : Nat} {c : mm_C} (hs : (fL_week N v0 v1 v2 v3 v4 v5 c).isSome = true) : mC Z qL_week d 1 6 [.ref v0, .int v1, .int v2, .int v3, .int v4, .ref v5] (n, c) (mP 1 ovI n (fL_week N v0 v1 v2 v3 v4 v5 c)) := by
  refine mC_of gL_week (by decide +kernel) (Nat.le_of_ble_eq_true rfl) fun X C hRm => ?_
  have hf := hO_mP 1 ovI n hs
  have hk : 0 + 1 ≤ 1 := Nat.le_of_ble_eq_true rfl
  have hw : 0 + 6 ≤ 6 := Nat.le_of_ble_eq_true rfl
  show mG _ _ _ _ _ _ _ _ (0, [(0, .ref v0), (1, .int v1), (2, .int v2), (3, .int v3), (4, .int v4), (5, .ref v5)], [], (n, c))
  exact wL_week_0 C hRm hd hn hk hw hf
