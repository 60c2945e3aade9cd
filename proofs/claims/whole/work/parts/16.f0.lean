/- needs: 15.acall 15.fun 16.e1 -/
def bX0_givenBy_0 (N : Nat)  (v0 : Nat) (v1 : Int32) (v2 : Int32) (c : mm_C) : mR Int32 :=
  Option.bind (gR c v0 0 10) fun x1 => Option.bind (gR c x1 3 6) fun x2 => Option.bind (aR (.object "CloudTakes$Shot") c x2 v2) fun x3 => Option.bind (gR c v0 0 7) fun x4 => Option.bind (gI c x3 7 2) fun x5 => Option.bind (tI c x4 (0 : Int32) x5) fun c6 => Option.bind (gR c6 v0 0 7) fun x7 => Option.bind (gI c6 x3 7 0) fun x8 => Option.bind (tI c6 x7 (1 : Int32) x8) fun c9 => Option.bind (gR c9 v0 0 7) fun x10 => Option.bind (gI c9 x3 7 1) fun x11 => Option.bind (tI c9 x10 (2 : Int32) x11) fun c12 => Option.bind (gR c12 v0 0 7) fun x13 => Option.bind (gR c12 v0 0 9) fun x14 => Option.bind (gR c12 x14 1 0) fun x15 => Option.bind (gR c12 v0 0 8) fun x16 => Option.bind (gI c12 x16 9 0) fun x17 => Option.bind (aI c12 x15 x17) fun x18 => Option.bind (tI c12 x13 (3 : Int32) x18) fun c19 => Option.bind (gR c19 v0 0 7) fun x20 => Option.bind (gI c19 x3 7 4) fun x21 => Option.bind (gR c19 v0 0 8) fun x22 => Option.bind (gI c19 x22 9 0) fun x23 => Option.bind (tI c19 x20 (4 : Int32) ((x21 - x23) + (1 : Int32))) fun c24 => Option.bind (gR c24 v0 0 7) fun x25 => Option.bind (gR c24 v0 0 8) fun x26 => Option.bind (gI c24 x26 9 0) fun x27 => Option.bind (dvI x27 (60 : Int32)) fun x28 => Option.bind (tI c24 x25 (5 : Int32) x28) fun c29 => Option.bind (gR c29 v0 0 7) fun x30 => Option.bind (gR c29 v0 0 8) fun x31 => Option.bind (gI c29 x31 9 4) fun x32 => Option.bind (tI c29 x30 (6 : Int32) x32) fun c33 => Option.bind (gR c33 v0 0 7) fun x34 => Option.bind (gR c33 v0 0 8) fun x35 => Option.bind (gR c33 x35 9 7) fun x36 => Option.bind (aI c33 x36 v2) fun x37 => Option.bind (tI c33 x34 (7 : Int32) x37) fun c38 => Option.bind (gR c38 v0 0 10) fun x39 => Option.bind (gR c38 x39 3 8) fun x40 => Option.bind (gR c38 v0 0 7) fun x41 => cV 4 x40 c38 (fX4_gives N x40 v1 x41 c38) fun r42 c43 => some (.inl r42, c43)
set_option maxRecDepth 100000 in
theorem wX0_givenBy_0 {Z : mm_Z} {X : mm_T} {k w mc ms d n N : Nat} {Q : mm_O → mm_H → Prop} (C : mm_Ok Z qX0_givenBy X) (hRm : mt_R X = mm_rm d mc ms) (hd : 3 ≤ d) (hn : n + 1 < 1000000) (hk : k + 1 ≤ mc) (hw : w + 6 ≤ ms) {v0 : Nat} {v1 : Int32} {v2 : Int32} {c : mm_C} (hf : hO 0 ovI n (bX0_givenBy_0 N  v0 v1 v2 c) Q) : mG Z qX0_givenBy X k w mc ms Q (0, [(0, .ref v0), (1, .int v1), (2, .int v2)], [], (n, c)) := by
  unfold bX0_givenBy_0 at hf
  refine mg_aload_n C rfl rfl ?_
  refine mh_gR C rfl rfl rfl (by decide) hf (fun x1 hf => ?_)
  refine mh_gR C rfl rfl rfl (by decide) hf (fun x2 hf => ?_)
  refine mg_iload_n C rfl rfl ?_
  refine mh_aR (ti := 4) C rfl rfl rfl hf (fun x3 hf => ?_)
  refine mg_astore_n (lv' := [(0, .ref v0), (1, .int v1), (2, .int v2), (3, .ref x3)]) C rfl (Nat.le_of_ble_eq_true rfl) rfl ?_
  refine mg_aload_n C rfl rfl ?_
  refine mh_gR C rfl rfl rfl (by decide) hf (fun x4 hf => ?_)
  refine mg_iconst (v := 0) C rfl (by decide) ?_
  refine mg_aload_n C rfl rfl ?_
  refine mh_gI C rfl rfl rfl (by decide) hf (fun x5 hf => ?_)
  refine mh_tI C rfl hf (fun c6 hf => ?_)
  refine mg_aload_n C rfl rfl ?_
  refine mh_gR C rfl rfl rfl (by decide) hf (fun x7 hf => ?_)
  refine mg_iconst (v := 1) C rfl (by decide) ?_
  refine mg_aload_n C rfl rfl ?_
  refine mh_gI C rfl rfl rfl (by decide) hf (fun x8 hf => ?_)
  refine mh_tI C rfl hf (fun c9 hf => ?_)
  refine mg_aload_n C rfl rfl ?_
  refine mh_gR C rfl rfl rfl (by decide) hf (fun x10 hf => ?_)
  refine mg_iconst (v := 2) C rfl (by decide) ?_
  refine mg_aload_n C rfl rfl ?_
  refine mh_gI C rfl rfl rfl (by decide) hf (fun x11 hf => ?_)
  refine mh_tI C rfl hf (fun c12 hf => ?_)
  refine mg_aload_n C rfl rfl ?_
  refine mh_gR C rfl rfl rfl (by decide) hf (fun x13 hf => ?_)
  refine mg_iconst (v := 3) C rfl (by decide) ?_
  refine mg_aload_n C rfl rfl ?_
  refine mh_gR C rfl rfl rfl (by decide) hf (fun x14 hf => ?_)
  refine mh_gR C rfl rfl rfl (by decide) hf (fun x15 hf => ?_)
  refine mg_aload_n C rfl rfl ?_
  refine mh_gR C rfl rfl rfl (by decide) hf (fun x16 hf => ?_)
  refine mh_gI C rfl rfl rfl (by decide) hf (fun x17 hf => ?_)
  refine mh_aI C rfl hf (fun x18 hf => ?_)
  refine mh_tI C rfl hf (fun c19 hf => ?_)
  refine mg_aload_n C rfl rfl ?_
  refine mh_gR C rfl rfl rfl (by decide) hf (fun x20 hf => ?_)
  refine mg_iconst (v := 4) C rfl (by decide) ?_
  refine mg_aload_n C rfl rfl ?_
  refine mh_gI C rfl rfl rfl (by decide) hf (fun x21 hf => ?_)
  refine mg_aload_n C rfl rfl ?_
  refine mh_gR C rfl rfl rfl (by decide) hf (fun x22 hf => ?_)
  refine mh_gI C rfl rfl rfl (by decide) hf (fun x23 hf => ?_)
  refine mg_isub C rfl ?_
  refine mg_iconst (v := 1) C rfl (by decide) ?_
  refine mg_iadd C rfl ?_
  refine mh_tI C rfl hf (fun c24 hf => ?_)
  refine mg_aload_n C rfl rfl ?_
  refine mh_gR C rfl rfl rfl (by decide) hf (fun x25 hf => ?_)
  refine mg_iconst (v := 5) C rfl (by decide) ?_
  refine mg_aload_n C rfl rfl ?_
  refine mh_gR C rfl rfl rfl (by decide) hf (fun x26 hf => ?_)
  refine mh_gI C rfl rfl rfl (by decide) hf (fun x27 hf => ?_)
  refine mg_bipush (v := 60) C rfl (by decide) ?_
  refine mh_idiv C rfl hf (fun x28 hf => ?_)
  refine mh_tI C rfl hf (fun c29 hf => ?_)
  refine mg_aload_n C rfl rfl ?_
  refine mh_gR C rfl rfl rfl (by decide) hf (fun x30 hf => ?_)
  refine mg_bipush (v := 6) C rfl (by decide) ?_
  refine mg_aload_n C rfl rfl ?_
  refine mh_gR C rfl rfl rfl (by decide) hf (fun x31 hf => ?_)
  refine mh_gI C rfl rfl rfl (by decide) hf (fun x32 hf => ?_)
  refine mh_tI C rfl hf (fun c33 hf => ?_)
  refine mg_aload_n C rfl rfl ?_
  refine mh_gR C rfl rfl rfl (by decide) hf (fun x34 hf => ?_)
  refine mg_bipush (v := 7) C rfl (by decide) ?_
  refine mg_aload_n C rfl rfl ?_
  refine mh_gR C rfl rfl rfl (by decide) hf (fun x35 hf => ?_)
  refine mh_gR C rfl rfl rfl (by decide) hf (fun x36 hf => ?_)
  refine mg_iload_n C rfl rfl ?_
  refine mh_aI C rfl hf (fun x37 hf => ?_)
  refine mh_tI C rfl hf (fun c38 hf => ?_)
  refine mg_aload_n C rfl rfl ?_
  refine mh_gR C rfl rfl rfl (by decide) hf (fun x39 hf => ?_)
  refine mh_gR C rfl rfl rfl (by decide) hf (fun x40 hf => ?_)
  refine mg_iload_n C rfl rfl ?_
  refine mg_aload_n C rfl rfl ?_
  refine mh_gR C rfl rfl rfl (by decide) hf (fun x41 hf => ?_)
  refine mh_cVI (M' := qX4_gives) C rfl rfl aX4_gives iX4_gives sX4_gives hRm (by omega) (by decide) (by omega) (by omega) rfl rfl rfl (Nat.le_of_ble_eq_true rfl) rfl hf (fun hs => wX4_gives (by omega) (by omega) hs) (fun r42 c43 hf => ?_)
  exact mh_ireturn C rfl (by omega) (by omega) rfl hf
def fX0_givenBy (N : Nat) (v0 : Nat) (v1 : Int32) (v2 : Int32) (c : mm_C) : mR Int32 := bX0_givenBy_0 N v0 v1 v2 c
set_option maxRecDepth 100000 in
theorem wX0_givenBy {Z : mm_Z} {d n N : Nat} (hd : 3 ≤ d) (hn : n + 1 < 1000000) {v0 : Nat} {v1 : Int32} {v2 : Int32} {c : mm_C} (hs : (fX0_givenBy N v0 v1 v2 c).isSome = true) : mC Z qX0_givenBy d 1 6 [.ref v0, .int v1, .int v2] (n, c) (mP 0 ovI n (fX0_givenBy N v0 v1 v2 c)) := by
  refine mC_of gX0_givenBy (by decide +kernel) (Nat.le_of_ble_eq_true rfl) fun X C hRm => ?_
  have hf := hO_mP 0 ovI n hs
  have hk : 0 + 1 ≤ 1 := Nat.le_of_ble_eq_true rfl
  have hw : 0 + 6 ≤ 6 := Nat.le_of_ble_eq_true rfl
  show mG _ _ _ _ _ _ _ _ (0, [(0, .ref v0), (1, .int v1), (2, .int v2)], [], (n, c))
  exact wX0_givenBy_0 C hRm hd hn hk hw hf
def bX0_chosen_106 (N : Nat)  (v2 : Int32) (c : mm_C) : mR Int32 :=
  some (.inl v2, c)
set_option maxRecDepth 100000 in
theorem wX0_chosen_106 {Z : mm_Z} {X : mm_T} {k w mc ms d n N : Nat} {Q : mm_O → mm_H → Prop} (C : mm_Ok Z qX0_chosen X) (hRm : mt_R X = mm_rm d mc ms) (hd : 4 ≤ d) (hn : n + 1 < 1000000) (hk : k + 1 ≤ mc) (hw : w + 6 ≤ ms) {v2 : Int32} {c : mm_C} (hf : hO 0 ovI n (bX0_chosen_106 N  v2 c) Q) : mG Z qX0_chosen X k w mc ms Q (106, [(2, .int v2)], [], (n, c)) := by
  unfold bX0_chosen_106 at hf
  refine mg_iload_n C rfl rfl ?_
  exact mh_ireturn C rfl (by omega) (by omega) rfl hf
def bX0_chosen_100 (N : Nat)  (k7 : Nat → Int32 → Int32 → Int32 → Int32 → mm_C → mR Int32) (v0 : Nat) (v1 : Int32) (v2 : Int32) (v3 : Int32) (v4 : Int32) (c : mm_C) : mR Int32 :=
  k7 v0 v1 v2 v3 (v4 + 1) c
set_option maxRecDepth 100000 in
theorem wX0_chosen_100 {Z : mm_Z} {X : mm_T} {k w mc ms d n N : Nat} {Q : mm_O → mm_H → Prop} (C : mm_Ok Z qX0_chosen X) (hRm : mt_R X = mm_rm d mc ms) (hd : 4 ≤ d) (hn : n + 1 < 1000000) (hk : k + 1 ≤ mc) (hw : w + 6 ≤ ms) {k7 : Nat → Int32 → Int32 → Int32 → Int32 → mm_C → mR Int32} (hk7 : ∀ (v0 : Nat) (v1 : Int32) (v2 : Int32) (v3 : Int32) (v4 : Int32) (c : mm_C), hO 0 ovI n (k7 v0 v1 v2 v3 v4 c) Q → mG Z qX0_chosen X k w mc ms Q (7, [(0, .ref v0), (1, .int v1), (2, .int v2), (3, .int v3), (4, .int v4)], [], (n, c))) {v0 : Nat} {v1 : Int32} {v2 : Int32} {v3 : Int32} {v4 : Int32} {c : mm_C} (hf : hO 0 ovI n (bX0_chosen_100 N  k7 v0 v1 v2 v3 v4 c) Q) : mG Z qX0_chosen X k w mc ms Q (100, [(0, .ref v0), (1, .int v1), (2, .int v2), (3, .int v3), (4, .int v4)], [], (n, c)) := by
  unfold bX0_chosen_100 at hf
  refine mg_iinc (lv' := [(0, .ref v0), (1, .int v1), (2, .int v2), (3, .int v3), (4, .int (v4 + 1))]) C rfl (Nat.le_of_ble_eq_true rfl) rfl (show _ + Int32.ofInt 1 = _ + 1 by congr 1) rfl ?_
  refine mg_goto C rfl ?_
  exact hk7 _ _ _ _ _ _ hf
def bX0_chosen_76 (N : Nat)  (v4 : Int32) (c : mm_C) : mR Int32 :=
  some (.inl v4, c)
set_option maxRecDepth 100000 in
theorem wX0_chosen_76 {Z : mm_Z} {X : mm_T} {k w mc ms d n N : Nat} {Q : mm_O → mm_H → Prop} (C : mm_Ok Z qX0_chosen X) (hRm : mt_R X = mm_rm d mc ms) (hd : 4 ≤ d) (hn : n + 1 < 1000000) (hk : k + 1 ≤ mc) (hw : w + 6 ≤ ms) {v4 : Int32} {c : mm_C} (hf : hO 0 ovI n (bX0_chosen_76 N  v4 c) Q) : mG Z qX0_chosen X k w mc ms Q (76, [(4, .int v4)], [], (n, c)) := by
  unfold bX0_chosen_76 at hf
  refine mg_iload C rfl rfl ?_
  exact mh_ireturn C rfl (by omega) (by omega) rfl hf
def bX0_chosen_37 (N : Nat)  (k7 : Nat → Int32 → Int32 → Int32 → Int32 → mm_C → mR Int32) (v0 : Nat) (v1 : Int32) (v2 : Int32) (v3 : Int32) (v4 : Int32) (s0 : Int32) (c : mm_C) : mR Int32 :=
  if s0 = 0 then (bX0_chosen_100 N  k7 v0 v1 v2 v3 v4 c) else (Option.bind (gR c v0 0 9) fun x1 => Option.bind (gR c v0 0 10) fun x2 => Option.bind (gR c x2 3 6) fun x3 => Option.bind (aR (.object "CloudTakes$Shot") c x3 v4) fun x4 => Option.bind (gR c v0 0 8) fun x5 => Option.bind (gI c x5 9 0) fun x6 => cV 1 x1 c (fX1_hindranceOfMinute N x1 x4 x6 c) fun r7 c8 => if ¬ r7 = 0 then (bX0_chosen_100 N  k7 v0 v1 v2 v3 v4 c8) else (if ¬ v1 = (-1 : Int32) then (cV 0 v0 c8 (fX0_givenBy N v0 v1 v4 c8) fun r9 c10 => if r9 ≤ v3 then (bX0_chosen_100 N  k7 v0 v1 v2 v3 v4 c10) else (bX0_chosen_100 N  k7 v0 v1 v4 r9 v4 c10)) else (bX0_chosen_76 N  v4 c8)))
set_option maxRecDepth 100000 in
theorem wX0_chosen_37 {Z : mm_Z} {X : mm_T} {k w mc ms d n N : Nat} {Q : mm_O → mm_H → Prop} (C : mm_Ok Z qX0_chosen X) (hRm : mt_R X = mm_rm d mc ms) (hd : 4 ≤ d) (hn : n + 1 < 1000000) (hk : k + 1 ≤ mc) (hw : w + 6 ≤ ms) {k7 : Nat → Int32 → Int32 → Int32 → Int32 → mm_C → mR Int32} (hk7 : ∀ (v0 : Nat) (v1 : Int32) (v2 : Int32) (v3 : Int32) (v4 : Int32) (c : mm_C), hO 0 ovI n (k7 v0 v1 v2 v3 v4 c) Q → mG Z qX0_chosen X k w mc ms Q (7, [(0, .ref v0), (1, .int v1), (2, .int v2), (3, .int v3), (4, .int v4)], [], (n, c))) {v0 : Nat} {v1 : Int32} {v2 : Int32} {v3 : Int32} {v4 : Int32} {s0 : Int32} {c : mm_C} (hf : hO 0 ovI n (bX0_chosen_37 N  k7 v0 v1 v2 v3 v4 s0 c) Q) : mG Z qX0_chosen X k w mc ms Q (37, [(0, .ref v0), (1, .int v1), (2, .int v2), (3, .int v3), (4, .int v4)], [.int s0], (n, c)) := by
  unfold bX0_chosen_37 at hf
  refine mg_istore (lv' := [(0, .ref v0), (1, .int v1), (2, .int v2), (3, .int v3), (4, .int v4), (5, .int s0)]) C rfl (Nat.le_of_ble_eq_true rfl) rfl ?_
  refine mg_iload C rfl rfl ?_
  refine mh_if_eq C rfl hf (fun e_41 hf => ?_) (fun e_41 hf => ?_)
  · refine mg_sub (lv' := [(0, .ref v0), (1, .int v1), (2, .int v2), (3, .int v3), (4, .int v4)]) (by simp) ?_
    exact wX0_chosen_100 C hRm hd hn hk hw hk7 hf
  · refine mg_aload_n C rfl rfl ?_
    refine mh_gR C rfl rfl rfl (by decide) hf (fun x1 hf => ?_)
    refine mg_aload_n C rfl rfl ?_
    refine mh_gR C rfl rfl rfl (by decide) hf (fun x2 hf => ?_)
    refine mh_gR C rfl rfl rfl (by decide) hf (fun x3 hf => ?_)
    refine mg_iload C rfl rfl ?_
    refine mh_aR (ti := 4) C rfl rfl rfl hf (fun x4 hf => ?_)
    refine mg_aload_n C rfl rfl ?_
    refine mh_gR C rfl rfl rfl (by decide) hf (fun x5 hf => ?_)
    refine mh_gI C rfl rfl rfl (by decide) hf (fun x6 hf => ?_)
    refine mh_cVI (M' := qX1_hindranceOfMinute) C rfl rfl aX1_hindranceOfMinute iX1_hindranceOfMinute sX1_hindranceOfMinute hRm (by omega) (by decide) (by omega) (by omega) rfl rfl rfl (Nat.le_of_ble_eq_true rfl) rfl hf (fun hs => wX1_hindranceOfMinute (by omega) (by omega) hs) (fun r7 c8 hf => ?_)
    refine mh_if_ne C rfl hf (fun e_68 hf => ?_) (fun e_68 hf => ?_)
    · refine mg_sub (lv' := [(0, .ref v0), (1, .int v1), (2, .int v2), (3, .int v3), (4, .int v4)]) (by simp) ?_
      exact wX0_chosen_100 C hRm hd hn hk hw hk7 hf
    · refine mg_iload_n C rfl rfl ?_
      refine mg_iconst (v := (-1)) C rfl (by decide) ?_
      refine mh_icmp_ne C rfl hf (fun e_73 hf => ?_) (fun e_73 hf => ?_)
      · refine mg_aload_n C rfl rfl ?_
        refine mg_iload_n C rfl rfl ?_
        refine mg_iload C rfl rfl ?_
        refine mh_cVI (M' := qX0_givenBy) C rfl rfl aX0_givenBy iX0_givenBy sX0_givenBy hRm (by omega) (by decide) (by omega) (by omega) rfl rfl rfl (Nat.le_of_ble_eq_true rfl) rfl hf (fun hs => wX0_givenBy (by omega) (by omega) hs) (fun r9 c10 hf => ?_)
        refine mg_istore (lv' := [(0, .ref v0), (1, .int v1), (2, .int v2), (3, .int v3), (4, .int v4), (5, .int s0), (6, .int r9)]) C rfl (Nat.le_of_ble_eq_true rfl) rfl ?_
        refine mg_iload C rfl rfl ?_
        refine mg_iload_n C rfl rfl ?_
        refine mh_icmp_le C rfl hf (fun e_91 hf => ?_) (fun e_91 hf => ?_)
        · refine mg_sub (lv' := [(0, .ref v0), (1, .int v1), (2, .int v2), (3, .int v3), (4, .int v4)]) (by simp) ?_
          exact wX0_chosen_100 C hRm hd hn hk hw hk7 hf
        · refine mg_iload C rfl rfl ?_
          refine mg_istore_n (lv' := [(0, .ref v0), (1, .int v1), (2, .int v4), (3, .int v3), (4, .int v4), (5, .int s0), (6, .int r9)]) C rfl (Nat.le_of_ble_eq_true rfl) rfl ?_
          refine mg_iload C rfl rfl ?_
          refine mg_istore_n (lv' := [(0, .ref v0), (1, .int v1), (2, .int v4), (3, .int r9), (4, .int v4), (5, .int s0), (6, .int r9)]) C rfl (Nat.le_of_ble_eq_true rfl) rfl ?_
          refine mg_sub (lv' := [(0, .ref v0), (1, .int v1), (2, .int v4), (3, .int r9), (4, .int v4)]) (by simp) ?_
          exact wX0_chosen_100 C hRm hd hn hk hw hk7 hf
      · refine mg_sub (lv' := [(4, .int v4)]) (by simp) ?_
        exact wX0_chosen_76 C hRm hd hn hk hw hf
def bX0_chosen_7 (N : Nat)  (k7 : Nat → Int32 → Int32 → Int32 → Int32 → mm_C → mR Int32) (v0 : Nat) (v1 : Int32) (v2 : Int32) (v3 : Int32) (v4 : Int32) (c : mm_C) : mR Int32 :=
  Option.bind (gR c v0 0 10) fun x1 => Option.bind (gI c x1 3 3) fun x2 => if x2 ≤ v4 then (bX0_chosen_106 N  v2 c) else (Option.bind (gI c v0 0 11) fun x3 => if ¬ ((x3 >>> (v4 &&& 31)) &&& (1 : Int32)) = (1 : Int32) then (bX0_chosen_37 N  k7 v0 v1 v2 v3 v4 (0 : Int32) c) else (bX0_chosen_37 N  k7 v0 v1 v2 v3 v4 (1 : Int32) c))
set_option maxRecDepth 100000 in
theorem wX0_chosen_7 {Z : mm_Z} {X : mm_T} {k w mc ms d n N : Nat} {Q : mm_O → mm_H → Prop} (C : mm_Ok Z qX0_chosen X) (hRm : mt_R X = mm_rm d mc ms) (hd : 4 ≤ d) (hn : n + 1 < 1000000) (hk : k + 1 ≤ mc) (hw : w + 6 ≤ ms) {k7 : Nat → Int32 → Int32 → Int32 → Int32 → mm_C → mR Int32} (hk7 : ∀ (v0 : Nat) (v1 : Int32) (v2 : Int32) (v3 : Int32) (v4 : Int32) (c : mm_C), hO 0 ovI n (k7 v0 v1 v2 v3 v4 c) Q → mG Z qX0_chosen X k w mc ms Q (7, [(0, .ref v0), (1, .int v1), (2, .int v2), (3, .int v3), (4, .int v4)], [], (n, c))) {v0 : Nat} {v1 : Int32} {v2 : Int32} {v3 : Int32} {v4 : Int32} {c : mm_C} (hf : hO 0 ovI n (bX0_chosen_7 N  k7 v0 v1 v2 v3 v4 c) Q) : mG Z qX0_chosen X k w mc ms Q (7, [(0, .ref v0), (1, .int v1), (2, .int v2), (3, .int v3), (4, .int v4)], [], (n, c)) := by
  unfold bX0_chosen_7 at hf
  refine mg_iload C rfl rfl ?_
  refine mg_aload_n C rfl rfl ?_
  refine mh_gR C rfl rfl rfl (by decide) hf (fun x1 hf => ?_)
  refine mh_gI C rfl rfl rfl (by decide) hf (fun x2 hf => ?_)
  refine mh_icmp_ge C rfl hf (fun e_16 hf => ?_) (fun e_16 hf => ?_)
  · refine mg_sub (lv' := [(2, .int v2)]) (by simp) ?_
    exact wX0_chosen_106 C hRm hd hn hk hw hf
  · refine mg_aload_n C rfl rfl ?_
    refine mh_gI C rfl rfl rfl (by decide) hf (fun x3 hf => ?_)
    refine mg_iload C rfl rfl ?_
    refine mg_ishr C rfl ?_
    refine mg_iconst (v := 1) C rfl (by decide) ?_
    refine mg_iand C rfl ?_
    refine mg_iconst (v := 1) C rfl (by decide) ?_
    refine mh_icmp_ne C rfl hf (fun e_29 hf => ?_) (fun e_29 hf => ?_)
    · refine mg_iconst (v := 0) C rfl (by decide) ?_
      exact wX0_chosen_37 C hRm hd hn hk hw hk7 hf
    · refine mg_iconst (v := 1) C rfl (by decide) ?_
      refine mg_goto C rfl ?_
      exact wX0_chosen_37 C hRm hd hn hk hw hk7 hf
def lX0_chosen_7 (N : Nat)  : Nat → Nat → Int32 → Int32 → Int32 → Int32 → mm_C → mR Int32
  | 0, _, _, _, _, _, _ => none
  | m + 1, v0, v1, v2, v3, v4, c => bX0_chosen_7 N  (lX0_chosen_7 N  m) v0 v1 v2 v3 v4 c
theorem WX0_chosen_7 {Z : mm_Z} {X : mm_T} {k w mc ms d n N : Nat} {Q : mm_O → mm_H → Prop} (C : mm_Ok Z qX0_chosen X) (hRm : mt_R X = mm_rm d mc ms) (hd : 4 ≤ d) (hn : n + 1 < 1000000) (hk : k + 1 ≤ mc) (hw : w + 6 ≤ ms) : ∀ (m : Nat) {v0 : Nat} {v1 : Int32} {v2 : Int32} {v3 : Int32} {v4 : Int32} {c : mm_C} (hf : hO 0 ovI n (lX0_chosen_7 N  m v0 v1 v2 v3 v4 c) Q), mG Z qX0_chosen X k w mc ms Q (7, [(0, .ref v0), (1, .int v1), (2, .int v2), (3, .int v3), (4, .int v4)], [], (n, c)) := by
  intro m
  induction m with
  | zero => intro v0 v1 v2 v3 v4 c hf; exact absurd hf hO_none
  | succ m ih => intro v0 v1 v2 v3 v4 c hf; exact wX0_chosen_7 C hRm hd hn hk hw (fun v0 v1 v2 v3 v4 c hf => ih hf) hf
def bX0_chosen_0 (N : Nat)  (v0 : Nat) (v1 : Int32) (c : mm_C) : mR Int32 :=
  lX0_chosen_7 N  N v0 v1 (-1 : Int32) (0 : Int32) (0 : Int32) c
set_option maxRecDepth 100000 in
theorem wX0_chosen_0 {Z : mm_Z} {X : mm_T} {k w mc ms d n N : Nat} {Q : mm_O → mm_H → Prop} (C : mm_Ok Z qX0_chosen X) (hRm : mt_R X = mm_rm d mc ms) (hd : 4 ≤ d) (hn : n + 1 < 1000000) (hk : k + 1 ≤ mc) (hw : w + 6 ≤ ms) {v0 : Nat} {v1 : Int32} {c : mm_C} (hf : hO 0 ovI n (bX0_chosen_0 N  v0 v1 c) Q) : mG Z qX0_chosen X k w mc ms Q (0, [(0, .ref v0), (1, .int v1)], [], (n, c)) := by
  unfold bX0_chosen_0 at hf
  refine mg_iconst (v := (-1)) C rfl (by decide) ?_
  refine mg_istore_n (lv' := [(0, .ref v0), (1, .int v1), (2, .int (-1 : Int32))]) C rfl (Nat.le_of_ble_eq_true rfl) rfl ?_
  refine mg_iconst (v := 0) C rfl (by decide) ?_
  refine mg_istore_n (lv' := [(0, .ref v0), (1, .int v1), (2, .int (-1 : Int32)), (3, .int (0 : Int32))]) C rfl (Nat.le_of_ble_eq_true rfl) rfl ?_
  refine mg_iconst (v := 0) C rfl (by decide) ?_
  refine mg_istore (lv' := [(0, .ref v0), (1, .int v1), (2, .int (-1 : Int32)), (3, .int (0 : Int32)), (4, .int (0 : Int32))]) C rfl (Nat.le_of_ble_eq_true rfl) rfl ?_
  exact WX0_chosen_7 C hRm hd hn hk hw N hf
def fX0_chosen (N : Nat) (v0 : Nat) (v1 : Int32) (c : mm_C) : mR Int32 := bX0_chosen_0 N v0 v1 c
set_option maxRecDepth 100000 in
theorem wX0_chosen {Z : mm_Z} {d n N : Nat} (hd : 4 ≤ d) (hn : n + 1 < 1000000) {v0 : Nat} {v1 : Int32} {c : mm_C} (hs : (fX0_chosen N v0 v1 c).isSome = true) : mC Z qX0_chosen d 1 6 [.ref v0, .int v1] (n, c) (mP 0 ovI n (fX0_chosen N v0 v1 c)) := by
  refine mC_of gX0_chosen (by decide +kernel) (Nat.le_of_ble_eq_true rfl) fun X C hRm => ?_
  have hf := hO_mP 0 ovI n hs
  have hk : 0 + 1 ≤ 1 := Nat.le_of_ble_eq_true rfl
  have hw : 0 + 6 ≤ 6 := Nat.le_of_ble_eq_true rfl
  show mG _ _ _ _ _ _ _ _ (0, [(0, .ref v0), (1, .int v1)], [], (n, c))
  exact wX0_chosen_0 C hRm hd hn hk hw hf
def bX0_clears_0 (N : Nat)  (v0 : Nat) (c : mm_C) : mR Unit :=
  Option.bind (pI c v0 0 0 (0 : Int32)) fun c1 => Option.bind (pI c1 v0 0 2 (0 : Int32)) fun c2 => Option.bind (pI c2 v0 0 3 (-1 : Int32)) fun c3 => Option.bind (pI c3 v0 0 4 (0 : Int32)) fun c4 => Option.bind (pI c4 v0 0 5 (0 : Int32)) fun c5 => some (.inl (), c5)
set_option maxRecDepth 100000 in
theorem wX0_clears_0 {Z : mm_Z} {X : mm_T} {k w mc ms d n N : Nat} {Q : mm_O → mm_H → Prop} (C : mm_Ok Z qX0_clears X) (hRm : mt_R X = mm_rm d mc ms) (hd : 1 ≤ d) (hn : n + 1 < 1000000) (hk : k + 1 ≤ mc) (hw : w + 6 ≤ ms) {v0 : Nat} {c : mm_C} (hf : hO 0 ovU n (bX0_clears_0 N  v0 c) Q) : mG Z qX0_clears X k w mc ms Q (0, [(0, .ref v0)], [], (n, c)) := by
  unfold bX0_clears_0 at hf
  refine mg_aload_n C rfl rfl ?_
  refine mg_iconst (v := 0) C rfl (by decide) ?_
  refine mh_pI C rfl rfl rfl (by decide) rfl rfl rfl hf (fun c1 hf => ?_)
  refine mg_aload_n C rfl rfl ?_
  refine mg_iconst (v := 0) C rfl (by decide) ?_
  refine mh_pI C rfl rfl rfl (by decide) rfl rfl rfl hf (fun c2 hf => ?_)
  refine mg_aload_n C rfl rfl ?_
  refine mg_iconst (v := (-1)) C rfl (by decide) ?_
  refine mh_pI C rfl rfl rfl (by decide) rfl rfl rfl hf (fun c3 hf => ?_)
  refine mg_aload_n C rfl rfl ?_
  refine mg_iconst (v := 0) C rfl (by decide) ?_
  refine mh_pI C rfl rfl rfl (by decide) rfl rfl rfl hf (fun c4 hf => ?_)
  refine mg_aload_n C rfl rfl ?_
  refine mg_iconst (v := 0) C rfl (by decide) ?_
  refine mh_pI C rfl rfl rfl (by decide) rfl rfl rfl hf (fun c5 hf => ?_)
  exact mh_return C rfl (by omega) (by omega) rfl hf
def fX0_clears (N : Nat) (v0 : Nat) (c : mm_C) : mR Unit := bX0_clears_0 N v0 c
set_option maxRecDepth 100000 in
theorem wX0_clears {Z : mm_Z} {d n N : Nat} (hd : 1 ≤ d) (hn : n + 1 < 1000000) {v0 : Nat} {c : mm_C} (hs : (fX0_clears N v0 c).isSome = true) : mC Z qX0_clears d 1 6 [.ref v0] (n, c) (mP 0 ovU n (fX0_clears N v0 c)) := by
  refine mC_of gX0_clears (by decide +kernel) (Nat.le_of_ble_eq_true rfl) fun X C hRm => ?_
  have hf := hO_mP 0 ovU n hs
  have hk : 0 + 1 ≤ 1 := Nat.le_of_ble_eq_true rfl
  have hw : 0 + 6 ≤ 6 := Nat.le_of_ble_eq_true rfl
  show mG _ _ _ _ _ _ _ _ (0, [(0, .ref v0)], [], (n, c))
  exact wX0_clears_0 C hRm hd hn hk hw hf
def bX0_findOpen_107 (N : Nat)  (k12 : Nat → Int32 → mm_C → mR Unit) (v0 : Nat) (v1 : Int32) (c : mm_C) : mR Unit :=
  k12 v0 (v1 + 1) c
set_option maxRecDepth 100000 in
theorem wX0_findOpen_107 {Z : mm_Z} {X : mm_T} {k w mc ms d n N : Nat} {Q : mm_O → mm_H → Prop} (C : mm_Ok Z qX0_findOpen X) (hRm : mt_R X = mm_rm d mc ms) (hd : 2 ≤ d) (hn : n + 1 < 1000000) (hk : k + 1 ≤ mc) (hw : w + 6 ≤ ms) {k12 : Nat → Int32 → mm_C → mR Unit} (hk12 : ∀ (v0 : Nat) (v1 : Int32) (c : mm_C), hO 0 ovU n (k12 v0 v1 c) Q → mG Z qX0_findOpen X k w mc ms Q (12, [(0, .ref v0), (1, .int v1)], [], (n, c))) {v0 : Nat} {v1 : Int32} {c : mm_C} (hf : hO 0 ovU n (bX0_findOpen_107 N  k12 v0 v1 c) Q) : mG Z qX0_findOpen X k w mc ms Q (107, [(0, .ref v0), (1, .int v1)], [], (n, c)) := by
  unfold bX0_findOpen_107 at hf
  refine mg_iinc (lv' := [(0, .ref v0), (1, .int (v1 + 1))]) C rfl (Nat.le_of_ble_eq_true rfl) rfl (show _ + Int32.ofInt 1 = _ + 1 by congr 1) rfl ?_
  refine mg_goto C rfl ?_
  exact hk12 _ _ _ hf
def bX0_findOpen_66 (N : Nat)  (k12 : Nat → Int32 → mm_C → mR Unit) (v0 : Nat) (v1 : Int32) (v2 : Nat) (c : mm_C) : mR Unit :=
  cV 7 v2 c (fX7_place N v2 c) fun r1 c2 => Option.bind (gR c2 v0 0 8) fun x3 => Option.bind (gI c2 x3 9 1) fun x4 => if ¬ r1 = x4 then (Option.bind (gI c2 v0 0 12) fun x5 => Option.bind (pI c2 v0 0 12 (x5 ||| ((1 : Int32) <<< (v1 &&& 31)))) fun c6 => bX0_findOpen_107 N  k12 v0 v1 c6) else (Option.bind (gI c2 v0 0 11) fun x7 => Option.bind (pI c2 v0 0 11 (x7 ||| ((1 : Int32) <<< (v1 &&& 31)))) fun c8 => bX0_findOpen_107 N  k12 v0 v1 c8)
set_option maxRecDepth 100000 in
theorem wX0_findOpen_66 {Z : mm_Z} {X : mm_T} {k w mc ms d n N : Nat} {Q : mm_O → mm_H → Prop} (C : mm_Ok Z qX0_findOpen X) (hRm : mt_R X = mm_rm d mc ms) (hd : 2 ≤ d) (hn : n + 1 < 1000000) (hk : k + 1 ≤ mc) (hw : w + 6 ≤ ms) {k12 : Nat → Int32 → mm_C → mR Unit} (hk12 : ∀ (v0 : Nat) (v1 : Int32) (c : mm_C), hO 0 ovU n (k12 v0 v1 c) Q → mG Z qX0_findOpen X k w mc ms Q (12, [(0, .ref v0), (1, .int v1)], [], (n, c))) {v0 : Nat} {v1 : Int32} {v2 : Nat} {c : mm_C} (hf : hO 0 ovU n (bX0_findOpen_66 N  k12 v0 v1 v2 c) Q) : mG Z qX0_findOpen X k w mc ms Q (66, [(0, .ref v0), (1, .int v1), (2, .ref v2)], [], (n, c)) := by
  unfold bX0_findOpen_66 at hf
  refine mg_aload_n C rfl rfl ?_
  refine mh_cVI (M' := qX7_place) C rfl rfl aX7_place iX7_place sX7_place hRm (by omega) (by decide) (by omega) (by omega) rfl rfl rfl (Nat.le_of_ble_eq_true rfl) rfl hf (fun hs => wX7_place (by omega) (by omega) hs) (fun r1 c2 hf => ?_)
  refine mg_aload_n C rfl rfl ?_
  refine mh_gR C rfl rfl rfl (by decide) hf (fun x3 hf => ?_)
  refine mh_gI C rfl rfl rfl (by decide) hf (fun x4 hf => ?_)
  refine mh_icmp_ne C rfl hf (fun e_77 hf => ?_) (fun e_77 hf => ?_)
  · refine mg_aload_n C rfl rfl ?_
    refine mg_dup C rfl rfl ?_
    refine mh_gI C rfl rfl rfl (by decide) hf (fun x5 hf => ?_)
    refine mg_iconst (v := 1) C rfl (by decide) ?_
    refine mg_iload_n C rfl rfl ?_
    refine mg_ishl C rfl ?_
    refine mg_ior C rfl ?_
    refine mh_pI C rfl rfl rfl (by decide) rfl rfl rfl hf (fun c6 hf => ?_)
    refine mg_sub (lv' := [(0, .ref v0), (1, .int v1)]) (by simp) ?_
    exact wX0_findOpen_107 C hRm hd hn hk hw hk12 hf
  · refine mg_aload_n C rfl rfl ?_
    refine mg_dup C rfl rfl ?_
    refine mh_gI C rfl rfl rfl (by decide) hf (fun x7 hf => ?_)
    refine mg_iconst (v := 1) C rfl (by decide) ?_
    refine mg_iload_n C rfl rfl ?_
    refine mg_ishl C rfl ?_
    refine mg_ior C rfl ?_
    refine mh_pI C rfl rfl rfl (by decide) rfl rfl rfl hf (fun c8 hf => ?_)
    refine mg_goto C rfl ?_
    refine mg_sub (lv' := [(0, .ref v0), (1, .int v1)]) (by simp) ?_
    exact wX0_findOpen_107 C hRm hd hn hk hw hk12 hf
def bX0_findOpen_12 (N : Nat)  (k12 : Nat → Int32 → mm_C → mR Unit) (v0 : Nat) (v1 : Int32) (c : mm_C) : mR Unit :=
  Option.bind (gR c v0 0 10) fun x1 => Option.bind (gI c x1 3 3) fun x2 => if x2 ≤ v1 then (some (.inl (), c)) else (Option.bind (gR c v0 0 10) fun x3 => Option.bind (gR c x3 3 6) fun x4 => Option.bind (aR (.object "CloudTakes$Shot") c x4 v1) fun x5 => Option.bind (gR c v0 0 8) fun x6 => cV 9 x6 c (fX9_isHad N x6 v1 c) fun r7 c8 => if ¬ r7 = 0 then (bX0_findOpen_107 N  k12 v0 v1 c8) else (Option.bind (gI c8 x5 7 5) fun x9 => if x9 = (-1 : Int32) then (bX0_findOpen_66 N  k12 v0 v1 x5 c8) else (Option.bind (gR c8 v0 0 8) fun x10 => Option.bind (gI c8 x5 7 5) fun x11 => cV 9 x10 c8 (fX9_isHad N x10 x11 c8) fun r12 c13 => if r12 = 0 then (bX0_findOpen_107 N  k12 v0 v1 c13) else (bX0_findOpen_66 N  k12 v0 v1 x5 c13))))
set_option maxRecDepth 100000 in
theorem wX0_findOpen_12 {Z : mm_Z} {X : mm_T} {k w mc ms d n N : Nat} {Q : mm_O → mm_H → Prop} (C : mm_Ok Z qX0_findOpen X) (hRm : mt_R X = mm_rm d mc ms) (hd : 2 ≤ d) (hn : n + 1 < 1000000) (hk : k + 1 ≤ mc) (hw : w + 6 ≤ ms) {k12 : Nat → Int32 → mm_C → mR Unit} (hk12 : ∀ (v0 : Nat) (v1 : Int32) (c : mm_C), hO 0 ovU n (k12 v0 v1 c) Q → mG Z qX0_findOpen X k w mc ms Q (12, [(0, .ref v0), (1, .int v1)], [], (n, c))) {v0 : Nat} {v1 : Int32} {c : mm_C} (hf : hO 0 ovU n (bX0_findOpen_12 N  k12 v0 v1 c) Q) : mG Z qX0_findOpen X k w mc ms Q (12, [(0, .ref v0), (1, .int v1)], [], (n, c)) := by
  unfold bX0_findOpen_12 at hf
  refine mg_iload_n C rfl rfl ?_
  refine mg_aload_n C rfl rfl ?_
  refine mh_gR C rfl rfl rfl (by decide) hf (fun x1 hf => ?_)
  refine mh_gI C rfl rfl rfl (by decide) hf (fun x2 hf => ?_)
  refine mh_icmp_ge C rfl hf (fun e_20 hf => ?_) (fun e_20 hf => ?_)
  · exact mh_return C rfl (by omega) (by omega) rfl hf
  · refine mg_aload_n C rfl rfl ?_
    refine mh_gR C rfl rfl rfl (by decide) hf (fun x3 hf => ?_)
    refine mh_gR C rfl rfl rfl (by decide) hf (fun x4 hf => ?_)
    refine mg_iload_n C rfl rfl ?_
    refine mh_aR (ti := 4) C rfl rfl rfl hf (fun x5 hf => ?_)
    refine mg_astore_n (lv' := [(0, .ref v0), (1, .int v1), (2, .ref x5)]) C rfl (Nat.le_of_ble_eq_true rfl) rfl ?_
    refine mg_aload_n C rfl rfl ?_
    refine mh_gR C rfl rfl rfl (by decide) hf (fun x6 hf => ?_)
    refine mg_iload_n C rfl rfl ?_
    refine mh_cVI (M' := qX9_isHad) C rfl rfl aX9_isHad iX9_isHad sX9_isHad hRm (by omega) (by decide) (by omega) (by omega) rfl rfl rfl (Nat.le_of_ble_eq_true rfl) rfl hf (fun hs => wX9_isHad (by omega) (by omega) hs) (fun r7 c8 hf => ?_)
    refine mh_if_ne C rfl hf (fun e_41 hf => ?_) (fun e_41 hf => ?_)
    · refine mg_sub (lv' := [(0, .ref v0), (1, .int v1)]) (by simp) ?_
      exact wX0_findOpen_107 C hRm hd hn hk hw hk12 hf
    · refine mg_aload_n C rfl rfl ?_
      refine mh_gI C rfl rfl rfl (by decide) hf (fun x9 hf => ?_)
      refine mg_iconst (v := (-1)) C rfl (by decide) ?_
      refine mh_icmp_eq C rfl hf (fun e_49 hf => ?_) (fun e_49 hf => ?_)
      · exact wX0_findOpen_66 C hRm hd hn hk hw hk12 hf
      · refine mg_aload_n C rfl rfl ?_
        refine mh_gR C rfl rfl rfl (by decide) hf (fun x10 hf => ?_)
        refine mg_aload_n C rfl rfl ?_
        refine mh_gI C rfl rfl rfl (by decide) hf (fun x11 hf => ?_)
        refine mh_cVI (M' := qX9_isHad) C rfl rfl aX9_isHad iX9_isHad sX9_isHad hRm (by omega) (by decide) (by omega) (by omega) rfl rfl rfl (Nat.le_of_ble_eq_true rfl) rfl hf (fun hs => wX9_isHad (by omega) (by omega) hs) (fun r12 c13 hf => ?_)
        refine mh_if_eq C rfl hf (fun e_63 hf => ?_) (fun e_63 hf => ?_)
        · refine mg_sub (lv' := [(0, .ref v0), (1, .int v1)]) (by simp) ?_
          exact wX0_findOpen_107 C hRm hd hn hk hw hk12 hf
        · exact wX0_findOpen_66 C hRm hd hn hk hw hk12 hf
def lX0_findOpen_12 (N : Nat)  : Nat → Nat → Int32 → mm_C → mR Unit
  | 0, _, _, _ => none
  | m + 1, v0, v1, c => bX0_findOpen_12 N  (lX0_findOpen_12 N  m) v0 v1 c
theorem WX0_findOpen_12 {Z : mm_Z} {X : mm_T} {k w mc ms d n N : Nat} {Q : mm_O → mm_H → Prop} (C : mm_Ok Z qX0_findOpen X) (hRm : mt_R X = mm_rm d mc ms) (hd : 2 ≤ d) (hn : n + 1 < 1000000) (hk : k + 1 ≤ mc) (hw : w + 6 ≤ ms) : ∀ (m : Nat) {v0 : Nat} {v1 : Int32} {c : mm_C} (hf : hO 0 ovU n (lX0_findOpen_12 N  m v0 v1 c) Q), mG Z qX0_findOpen X k w mc ms Q (12, [(0, .ref v0), (1, .int v1)], [], (n, c)) := by
  intro m
  induction m with
  | zero => intro v0 v1 c hf; exact absurd hf hO_none
  | succ m ih => intro v0 v1 c hf; exact wX0_findOpen_12 C hRm hd hn hk hw (fun v0 v1 c hf => ih hf) hf
def bX0_findOpen_0 (N : Nat)  (v0 : Nat) (c : mm_C) : mR Unit :=
  Option.bind (pI c v0 0 11 (0 : Int32)) fun c1 => Option.bind (pI c1 v0 0 12 (0 : Int32)) fun c2 => lX0_findOpen_12 N  N v0 (0 : Int32) c2
set_option maxRecDepth 100000 in
theorem wX0_findOpen_0 {Z : mm_Z} {X : mm_T} {k w mc ms d n N : Nat} {Q : mm_O → mm_H → Prop} (C : mm_Ok Z qX0_findOpen X) (hRm : mt_R X = mm_rm d mc ms) (hd : 2 ≤ d) (hn : n + 1 < 1000000) (hk : k + 1 ≤ mc) (hw : w + 6 ≤ ms) {v0 : Nat} {c : mm_C} (hf : hO 0 ovU n (bX0_findOpen_0 N  v0 c) Q) : mG Z qX0_findOpen X k w mc ms Q (0, [(0, .ref v0)], [], (n, c)) := by
  unfold bX0_findOpen_0 at hf
  refine mg_aload_n C rfl rfl ?_
  refine mg_iconst (v := 0) C rfl (by decide) ?_
  refine mh_pI C rfl rfl rfl (by decide) rfl rfl rfl hf (fun c1 hf => ?_)
  refine mg_aload_n C rfl rfl ?_
  refine mg_iconst (v := 0) C rfl (by decide) ?_
  refine mh_pI C rfl rfl rfl (by decide) rfl rfl rfl hf (fun c2 hf => ?_)
  refine mg_iconst (v := 0) C rfl (by decide) ?_
  refine mg_istore_n (lv' := [(0, .ref v0), (1, .int (0 : Int32))]) C rfl (Nat.le_of_ble_eq_true rfl) rfl ?_
  exact WX0_findOpen_12 C hRm hd hn hk hw N hf
def fX0_findOpen (N : Nat) (v0 : Nat) (c : mm_C) : mR Unit := bX0_findOpen_0 N v0 c
set_option maxRecDepth 100000 in
theorem wX0_findOpen {Z : mm_Z} {d n N : Nat} (hd : 2 ≤ d) (hn : n + 1 < 1000000) {v0 : Nat} {c : mm_C} (hs : (fX0_findOpen N v0 c).isSome = true) : mC Z qX0_findOpen d 1 6 [.ref v0] (n, c) (mP 0 ovU n (fX0_findOpen N v0 c)) := by
  refine mC_of gX0_findOpen (by decide +kernel) (Nat.le_of_ble_eq_true rfl) fun X C hRm => ?_
  have hf := hO_mP 0 ovU n hs
  have hk : 0 + 1 ≤ 1 := Nat.le_of_ble_eq_true rfl
  have hw : 0 + 6 ≤ 6 := Nat.le_of_ble_eq_true rfl
  show mG _ _ _ _ _ _ _ _ (0, [(0, .ref v0)], [], (n, c))
  exact wX0_findOpen_0 C hRm hd hn hk hw hf
def bX0_shoots_0 (N : Nat)  (v0 : Nat) (v1 : Int32) (c : mm_C) : mR Unit :=
  Option.bind (gR c v0 0 9) fun x1 => cV 1 x1 c (fX1_shoots N x1 v1 c) fun r2 c3 => if r2 = 0 then (Option.bind (gI c3 v0 0 2) fun x4 => Option.bind (pI c3 v0 0 2 (x4 + (1 : Int32))) fun c5 => some (.inl (), c5)) else (Option.bind (gI c3 v0 0 0) fun x6 => Option.bind (pI c3 v0 0 0 (x6 ||| ((1 : Int32) <<< (v1 &&& 31)))) fun c7 => Option.bind (gR c7 v0 0 6) fun x8 => Option.bind (gR c7 v0 0 8) fun x9 => Option.bind (gI c7 x9 9 0) fun x10 => Option.bind (tI c7 x8 v1 x10) fun c11 => Option.bind (gR c11 v0 0 8) fun x12 => Option.bind (gI c11 x12 9 0) fun x13 => Option.bind (pI c11 v0 0 3 x13) fun c14 => cV 0 v0 c14 (fX0_findOpen N v0 c14) fun (_ : Unit) c15 => some (.inl (), c15))
set_option maxRecDepth 100000 in
theorem wX0_shoots_0 {Z : mm_Z} {X : mm_T} {k w mc ms d n N : Nat} {Q : mm_O → mm_H → Prop} (C : mm_Ok Z qX0_shoots X) (hRm : mt_R X = mm_rm d mc ms) (hd : 4 ≤ d) (hn : n + 1 < 1000000) (hk : k + 1 ≤ mc) (hw : w + 6 ≤ ms) {v0 : Nat} {v1 : Int32} {c : mm_C} (hf : hO 0 ovU n (bX0_shoots_0 N  v0 v1 c) Q) : mG Z qX0_shoots X k w mc ms Q (0, [(0, .ref v0), (1, .int v1)], [], (n, c)) := by
  unfold bX0_shoots_0 at hf
  refine mg_aload_n C rfl rfl ?_
  refine mh_gR C rfl rfl rfl (by decide) hf (fun x1 hf => ?_)
  refine mg_iload_n C rfl rfl ?_
  refine mh_cVI (M' := qX1_shoots) C rfl rfl aX1_shoots iX1_shoots sX1_shoots hRm (by omega) (by decide) (by omega) (by omega) rfl rfl rfl (Nat.le_of_ble_eq_true rfl) rfl hf (fun hs => wX1_shoots (by omega) (by omega) hs) (fun r2 c3 hf => ?_)
  refine mh_if_eq C rfl hf (fun e_8 hf => ?_) (fun e_8 hf => ?_)
  · refine mg_aload_n C rfl rfl ?_
    refine mg_dup C rfl rfl ?_
    refine mh_gI C rfl rfl rfl (by decide) hf (fun x4 hf => ?_)
    refine mg_iconst (v := 1) C rfl (by decide) ?_
    refine mg_iadd C rfl ?_
    refine mh_pI C rfl rfl rfl (by decide) rfl rfl rfl hf (fun c5 hf => ?_)
    exact mh_return C rfl (by omega) (by omega) rfl hf
  · refine mg_aload_n C rfl rfl ?_
    refine mg_dup C rfl rfl ?_
    refine mh_gI C rfl rfl rfl (by decide) hf (fun x6 hf => ?_)
    refine mg_iconst (v := 1) C rfl (by decide) ?_
    refine mg_iload_n C rfl rfl ?_
    refine mg_ishl C rfl ?_
    refine mg_ior C rfl ?_
    refine mh_pI C rfl rfl rfl (by decide) rfl rfl rfl hf (fun c7 hf => ?_)
    refine mg_aload_n C rfl rfl ?_
    refine mh_gR C rfl rfl rfl (by decide) hf (fun x8 hf => ?_)
    refine mg_iload_n C rfl rfl ?_
    refine mg_aload_n C rfl rfl ?_
    refine mh_gR C rfl rfl rfl (by decide) hf (fun x9 hf => ?_)
    refine mh_gI C rfl rfl rfl (by decide) hf (fun x10 hf => ?_)
    refine mh_tI C rfl hf (fun c11 hf => ?_)
    refine mg_aload_n C rfl rfl ?_
    refine mg_aload_n C rfl rfl ?_
    refine mh_gR C rfl rfl rfl (by decide) hf (fun x12 hf => ?_)
    refine mh_gI C rfl rfl rfl (by decide) hf (fun x13 hf => ?_)
    refine mh_pI C rfl rfl rfl (by decide) rfl rfl rfl hf (fun c14 hf => ?_)
    refine mg_aload_n C rfl rfl ?_
    refine mh_cVU (M' := qX0_findOpen) C rfl rfl aX0_findOpen iX0_findOpen sX0_findOpen hRm (by omega) (by decide) (by omega) (by omega) rfl rfl rfl (Nat.le_of_ble_eq_true rfl) rfl hf (fun hs => wX0_findOpen (by omega) (by omega) hs) (fun c15 hf => ?_)
    refine mg_goto C rfl ?_
    exact mh_return C rfl (by omega) (by omega) rfl hf
def fX0_shoots (N : Nat) (v0 : Nat) (v1 : Int32) (c : mm_C) : mR Unit := bX0_shoots_0 N v0 v1 c
set_option maxRecDepth 100000 in
theorem wX0_shoots {Z : mm_Z} {d n N : Nat} (hd : 4 ≤ d) (hn : n + 1 < 1000000) {v0 : Nat} {v1 : Int32} {c : mm_C} (hs : (fX0_shoots N v0 v1 c).isSome = true) : mC Z qX0_shoots d 1 6 [.ref v0, .int v1] (n, c) (mP 0 ovU n (fX0_shoots N v0 v1 c)) := by
  refine mC_of gX0_shoots (by decide +kernel) (Nat.le_of_ble_eq_true rfl) fun X C hRm => ?_
  have hf := hO_mP 0 ovU n hs
  have hk : 0 + 1 ≤ 1 := Nat.le_of_ble_eq_true rfl
  have hw : 0 + 6 ≤ 6 := Nat.le_of_ble_eq_true rfl
  show mG _ _ _ _ _ _ _ _ (0, [(0, .ref v0), (1, .int v1)], [], (n, c))
  exact wX0_shoots_0 C hRm hd hn hk hw hf
def bX0_runs_181 (N : Nat)  (v0 : Nat) (v2 : Nat) (c : mm_C) : mR Unit :=
  Option.bind (gR c v0 0 8) fun x1 => Option.bind (gI c x1 9 3) fun x2 => Option.bind (gI c v2 9 3) fun x3 => Option.bind (pI c v0 0 1 (x2 - x3)) fun c4 => some (.inl (), c4)
set_option maxRecDepth 100000 in
theorem wX0_runs_181 {Z : mm_Z} {X : mm_T} {k w mc ms d n N : Nat} {Q : mm_O → mm_H → Prop} (C : mm_Ok Z qX0_runs X) (hRm : mt_R X = mm_rm d mc ms) (hd : 5 ≤ d) (hn : n + 1 < 1000000) (hk : k + 1 ≤ mc) (hw : w + 6 ≤ ms) {v0 : Nat} {v2 : Nat} {c : mm_C} (hf : hO 0 ovU n (bX0_runs_181 N  v0 v2 c) Q) : mG Z qX0_runs X k w mc ms Q (181, [(0, .ref v0), (2, .ref v2)], [], (n, c)) := by
  unfold bX0_runs_181 at hf
  refine mg_aload_n C rfl rfl ?_
  refine mg_aload_n C rfl rfl ?_
  refine mh_gR C rfl rfl rfl (by decide) hf (fun x1 hf => ?_)
  refine mh_gI C rfl rfl rfl (by decide) hf (fun x2 hf => ?_)
  refine mg_aload_n C rfl rfl ?_
  refine mh_gI C rfl rfl rfl (by decide) hf (fun x3 hf => ?_)
  refine mg_isub C rfl ?_
  refine mh_pI C rfl rfl rfl (by decide) rfl rfl rfl hf (fun c4 hf => ?_)
  exact mh_return C rfl (by omega) (by omega) rfl hf
def bX0_runs_175 (N : Nat)  (k40 : Nat → Nat → Int32 → Int32 → mm_C → mR Unit) (v0 : Nat) (v2 : Nat) (v3 : Int32) (v4 : Int32) (c : mm_C) : mR Unit :=
  k40 v0 v2 v3 (v4 + 1) c
set_option maxRecDepth 100000 in
theorem wX0_runs_175 {Z : mm_Z} {X : mm_T} {k w mc ms d n N : Nat} {Q : mm_O → mm_H → Prop} (C : mm_Ok Z qX0_runs X) (hRm : mt_R X = mm_rm d mc ms) (hd : 5 ≤ d) (hn : n + 1 < 1000000) (hk : k + 1 ≤ mc) (hw : w + 6 ≤ ms) {k40 : Nat → Nat → Int32 → Int32 → mm_C → mR Unit} (hk40 : ∀ (v0 : Nat) (v2 : Nat) (v3 : Int32) (v4 : Int32) (c : mm_C), hO 0 ovU n (k40 v0 v2 v3 v4 c) Q → mG Z qX0_runs X k w mc ms Q (40, [(0, .ref v0), (2, .ref v2), (3, .int v3), (4, .int v4)], [], (n, c))) {v0 : Nat} {v2 : Nat} {v3 : Int32} {v4 : Int32} {c : mm_C} (hf : hO 0 ovU n (bX0_runs_175 N  k40 v0 v2 v3 v4 c) Q) : mG Z qX0_runs X k w mc ms Q (175, [(0, .ref v0), (2, .ref v2), (3, .int v3), (4, .int v4)], [], (n, c)) := by
  unfold bX0_runs_175 at hf
  refine mg_iinc (lv' := [(0, .ref v0), (2, .ref v2), (3, .int v3), (4, .int (v4 + 1))]) C rfl (Nat.le_of_ble_eq_true rfl) rfl (show _ + Int32.ofInt 1 = _ + 1 by congr 1) rfl ?_
  refine mg_goto C rfl ?_
  exact hk40 _ _ _ _ _ hf
def bX0_runs_157 (N : Nat)  (k40 : Nat → Nat → Int32 → Int32 → mm_C → mR Unit) (v0 : Nat) (v2 : Nat) (v3 : Int32) (v4 : Int32) (c : mm_C) : mR Unit :=
  Option.bind (gR c v0 0 8) fun x1 => cV 9 x1 c (fX9_waits N x1 (1 : Int32) c) fun (_ : Unit) c2 => Option.bind (gI c2 v0 0 4) fun x3 => Option.bind (pI c2 v0 0 4 (x3 + (1 : Int32))) fun c4 => bX0_runs_175 N  k40 v0 v2 v3 v4 c4
set_option maxRecDepth 100000 in
theorem wX0_runs_157 {Z : mm_Z} {X : mm_T} {k w mc ms d n N : Nat} {Q : mm_O → mm_H → Prop} (C : mm_Ok Z qX0_runs X) (hRm : mt_R X = mm_rm d mc ms) (hd : 5 ≤ d) (hn : n + 1 < 1000000) (hk : k + 1 ≤ mc) (hw : w + 6 ≤ ms) {k40 : Nat → Nat → Int32 → Int32 → mm_C → mR Unit} (hk40 : ∀ (v0 : Nat) (v2 : Nat) (v3 : Int32) (v4 : Int32) (c : mm_C), hO 0 ovU n (k40 v0 v2 v3 v4 c) Q → mG Z qX0_runs X k w mc ms Q (40, [(0, .ref v0), (2, .ref v2), (3, .int v3), (4, .int v4)], [], (n, c))) {v0 : Nat} {v2 : Nat} {v3 : Int32} {v4 : Int32} {c : mm_C} (hf : hO 0 ovU n (bX0_runs_157 N  k40 v0 v2 v3 v4 c) Q) : mG Z qX0_runs X k w mc ms Q (157, [(0, .ref v0), (2, .ref v2), (3, .int v3), (4, .int v4)], [], (n, c)) := by
  unfold bX0_runs_157 at hf
  refine mg_aload_n C rfl rfl ?_
  refine mh_gR C rfl rfl rfl (by decide) hf (fun x1 hf => ?_)
  refine mg_iconst (v := 1) C rfl (by decide) ?_
  refine mh_cVU (M' := qX9_waits) C rfl rfl aX9_waits iX9_waits sX9_waits hRm (by omega) (by decide) (by omega) (by omega) rfl rfl rfl (Nat.le_of_ble_eq_true rfl) rfl hf (fun hs => wX9_waits (by omega) (by omega) hs) (fun c2 hf => ?_)
  refine mg_aload_n C rfl rfl ?_
  refine mg_dup C rfl rfl ?_
  refine mh_gI C rfl rfl rfl (by decide) hf (fun x3 hf => ?_)
  refine mg_iconst (v := 1) C rfl (by decide) ?_
  refine mg_iadd C rfl ?_
  refine mh_pI C rfl rfl rfl (by decide) rfl rfl rfl hf (fun c4 hf => ?_)
  exact wX0_runs_175 C hRm hd hn hk hw hk40 hf
def bX0_runs_40 (N : Nat)  (k40 : Nat → Nat → Int32 → Int32 → mm_C → mR Unit) (v0 : Nat) (v2 : Nat) (v3 : Int32) (v4 : Int32) (c : mm_C) : mR Unit :=
  if (1000 : Int32) ≤ v4 then (bX0_runs_181 N  v0 v2 c) else (Option.bind (gR c v0 0 8) fun x1 => Option.bind (gI c x1 9 0) fun x2 => Option.bind (gR c v0 0 10) fun x3 => Option.bind (gI c x3 3 0) fun x4 => if x4 ≤ x2 then (bX0_runs_181 N  v0 v2 c) else (cV 0 v0 c (fX0_chosen N v0 v3 c) fun r5 c6 => if r5 = (-1 : Int32) then (Option.bind (gI c6 v0 0 11) fun x7 => if ¬ x7 = 0 then (bX0_runs_157 N  k40 v0 v2 v3 v4 c6) else (Option.bind (gI c6 v0 0 12) fun x8 => if x8 = 0 then (bX0_runs_157 N  k40 v0 v2 v3 v4 c6) else (Option.bind (gR c6 v0 0 8) fun x9 => Option.bind (gI c6 x9 9 0) fun x10 => Option.bind (gR c6 v0 0 10) fun x11 => Option.bind (gI c6 x11 3 1) fun x12 => Option.bind (gR c6 v0 0 10) fun x13 => Option.bind (gI c6 x13 3 0) fun x14 => if x14 ≤ (x10 + x12) then (bX0_runs_157 N  k40 v0 v2 v3 v4 c6) else (Option.bind (gR c6 v0 0 8) fun x15 => Option.bind (gR c6 v0 0 10) fun x16 => Option.bind (gI c6 x16 3 1) fun x17 => cV 9 x15 c6 (fX9_goesOver N x15 x17 c6) fun (_ : Unit) c18 => Option.bind (gI c18 v0 0 5) fun x19 => Option.bind (pI c18 v0 0 5 (x19 + (1 : Int32))) fun c20 => cV 0 v0 c20 (fX0_findOpen N v0 c20) fun (_ : Unit) c21 => bX0_runs_175 N  k40 v0 v2 v3 v4 c21)))) else (cV 0 v0 c6 (fX0_shoots N v0 r5 c6) fun (_ : Unit) c22 => bX0_runs_175 N  k40 v0 v2 v3 v4 c22)))
set_option maxRecDepth 100000 in
theorem wX0_runs_40 {Z : mm_Z} {X : mm_T} {k w mc ms d n N : Nat} {Q : mm_O → mm_H → Prop} (C : mm_Ok Z qX0_runs X) (hRm : mt_R X = mm_rm d mc ms) (hd : 5 ≤ d) (hn : n + 1 < 1000000) (hk : k + 1 ≤ mc) (hw : w + 6 ≤ ms) {k40 : Nat → Nat → Int32 → Int32 → mm_C → mR Unit} (hk40 : ∀ (v0 : Nat) (v2 : Nat) (v3 : Int32) (v4 : Int32) (c : mm_C), hO 0 ovU n (k40 v0 v2 v3 v4 c) Q → mG Z qX0_runs X k w mc ms Q (40, [(0, .ref v0), (2, .ref v2), (3, .int v3), (4, .int v4)], [], (n, c))) {v0 : Nat} {v2 : Nat} {v3 : Int32} {v4 : Int32} {c : mm_C} (hf : hO 0 ovU n (bX0_runs_40 N  k40 v0 v2 v3 v4 c) Q) : mG Z qX0_runs X k w mc ms Q (40, [(0, .ref v0), (2, .ref v2), (3, .int v3), (4, .int v4)], [], (n, c)) := by
  unfold bX0_runs_40 at hf
  refine mg_iload C rfl rfl ?_
  refine mg_sipush (v := 1000) C rfl (by decide) ?_
  refine mh_icmp_ge C rfl hf (fun e_45 hf => ?_) (fun e_45 hf => ?_)
  · refine mg_sub (lv' := [(0, .ref v0), (2, .ref v2)]) (by simp) ?_
    exact wX0_runs_181 C hRm hd hn hk hw hf
  · refine mg_aload_n C rfl rfl ?_
    refine mh_gR C rfl rfl rfl (by decide) hf (fun x1 hf => ?_)
    refine mh_gI C rfl rfl rfl (by decide) hf (fun x2 hf => ?_)
    refine mg_aload_n C rfl rfl ?_
    refine mh_gR C rfl rfl rfl (by decide) hf (fun x3 hf => ?_)
    refine mh_gI C rfl rfl rfl (by decide) hf (fun x4 hf => ?_)
    refine mh_icmp_ge C rfl hf (fun e_62 hf => ?_) (fun e_62 hf => ?_)
    · refine mg_sub (lv' := [(0, .ref v0), (2, .ref v2)]) (by simp) ?_
      exact wX0_runs_181 C hRm hd hn hk hw hf
    · refine mg_aload_n C rfl rfl ?_
      refine mg_iload_n C rfl rfl ?_
      refine mh_cVI (M' := qX0_chosen) C rfl rfl aX0_chosen iX0_chosen sX0_chosen hRm (by omega) (by decide) (by omega) (by omega) rfl rfl rfl (Nat.le_of_ble_eq_true rfl) rfl hf (fun hs => wX0_chosen (by omega) (by omega) hs) (fun r5 c6 hf => ?_)
      refine mg_istore (lv' := [(0, .ref v0), (2, .ref v2), (3, .int v3), (4, .int v4), (5, .int r5)]) C rfl (Nat.le_of_ble_eq_true rfl) rfl ?_
      refine mg_iload C rfl rfl ?_
      refine mg_iconst (v := (-1)) C rfl (by decide) ?_
      refine mh_icmp_eq C rfl hf (fun e_75 hf => ?_) (fun e_75 hf => ?_)
      · refine mg_aload_n C rfl rfl ?_
        refine mh_gI C rfl rfl rfl (by decide) hf (fun x7 hf => ?_)
        refine mh_if_ne C rfl hf (fun e_91 hf => ?_) (fun e_91 hf => ?_)
        · refine mg_sub (lv' := [(0, .ref v0), (2, .ref v2), (3, .int v3), (4, .int v4)]) (by simp) ?_
          exact wX0_runs_157 C hRm hd hn hk hw hk40 hf
        · refine mg_aload_n C rfl rfl ?_
          refine mh_gI C rfl rfl rfl (by decide) hf (fun x8 hf => ?_)
          refine mh_if_eq C rfl hf (fun e_98 hf => ?_) (fun e_98 hf => ?_)
          · refine mg_sub (lv' := [(0, .ref v0), (2, .ref v2), (3, .int v3), (4, .int v4)]) (by simp) ?_
            exact wX0_runs_157 C hRm hd hn hk hw hk40 hf
          · refine mg_aload_n C rfl rfl ?_
            refine mh_gR C rfl rfl rfl (by decide) hf (fun x9 hf => ?_)
            refine mh_gI C rfl rfl rfl (by decide) hf (fun x10 hf => ?_)
            refine mg_aload_n C rfl rfl ?_
            refine mh_gR C rfl rfl rfl (by decide) hf (fun x11 hf => ?_)
            refine mh_gI C rfl rfl rfl (by decide) hf (fun x12 hf => ?_)
            refine mg_iadd C rfl ?_
            refine mg_aload_n C rfl rfl ?_
            refine mh_gR C rfl rfl rfl (by decide) hf (fun x13 hf => ?_)
            refine mh_gI C rfl rfl rfl (by decide) hf (fun x14 hf => ?_)
            refine mh_icmp_ge C rfl hf (fun e_123 hf => ?_) (fun e_123 hf => ?_)
            · refine mg_sub (lv' := [(0, .ref v0), (2, .ref v2), (3, .int v3), (4, .int v4)]) (by simp) ?_
              exact wX0_runs_157 C hRm hd hn hk hw hk40 hf
            · refine mg_aload_n C rfl rfl ?_
              refine mh_gR C rfl rfl rfl (by decide) hf (fun x15 hf => ?_)
              refine mg_aload_n C rfl rfl ?_
              refine mh_gR C rfl rfl rfl (by decide) hf (fun x16 hf => ?_)
              refine mh_gI C rfl rfl rfl (by decide) hf (fun x17 hf => ?_)
              refine mh_cVU (M' := qX9_goesOver) C rfl rfl aX9_goesOver iX9_goesOver sX9_goesOver hRm (by omega) (by decide) (by omega) (by omega) rfl rfl rfl (Nat.le_of_ble_eq_true rfl) rfl hf (fun hs => wX9_goesOver (by omega) (by omega) hs) (fun c18 hf => ?_)
              refine mg_aload_n C rfl rfl ?_
              refine mg_dup C rfl rfl ?_
              refine mh_gI C rfl rfl rfl (by decide) hf (fun x19 hf => ?_)
              refine mg_iconst (v := 1) C rfl (by decide) ?_
              refine mg_iadd C rfl ?_
              refine mh_pI C rfl rfl rfl (by decide) rfl rfl rfl hf (fun c20 hf => ?_)
              refine mg_aload_n C rfl rfl ?_
              refine mh_cVU (M' := qX0_findOpen) C rfl rfl aX0_findOpen iX0_findOpen sX0_findOpen hRm (by omega) (by decide) (by omega) (by omega) rfl rfl rfl (Nat.le_of_ble_eq_true rfl) rfl hf (fun hs => wX0_findOpen (by omega) (by omega) hs) (fun c21 hf => ?_)
              refine mg_goto C rfl ?_
              refine mg_sub (lv' := [(0, .ref v0), (2, .ref v2), (3, .int v3), (4, .int v4)]) (by simp) ?_
              exact wX0_runs_175 C hRm hd hn hk hw hk40 hf
      · refine mg_aload_n C rfl rfl ?_
        refine mg_iload C rfl rfl ?_
        refine mh_cVU (M' := qX0_shoots) C rfl rfl aX0_shoots iX0_shoots sX0_shoots hRm (by omega) (by decide) (by omega) (by omega) rfl rfl rfl (Nat.le_of_ble_eq_true rfl) rfl hf (fun hs => wX0_shoots (by omega) (by omega) hs) (fun c22 hf => ?_)
        refine mg_goto C rfl ?_
        refine mg_sub (lv' := [(0, .ref v0), (2, .ref v2), (3, .int v3), (4, .int v4)]) (by simp) ?_
        exact wX0_runs_175 C hRm hd hn hk hw hk40 hf
def lX0_runs_40 (N : Nat)  : Nat → Nat → Nat → Int32 → Int32 → mm_C → mR Unit
  | 0, _, _, _, _, _ => none
  | m + 1, v0, v2, v3, v4, c => bX0_runs_40 N  (lX0_runs_40 N  m) v0 v2 v3 v4 c
theorem WX0_runs_40 {Z : mm_Z} {X : mm_T} {k w mc ms d n N : Nat} {Q : mm_O → mm_H → Prop} (C : mm_Ok Z qX0_runs X) (hRm : mt_R X = mm_rm d mc ms) (hd : 5 ≤ d) (hn : n + 1 < 1000000) (hk : k + 1 ≤ mc) (hw : w + 6 ≤ ms) : ∀ (m : Nat) {v0 : Nat} {v2 : Nat} {v3 : Int32} {v4 : Int32} {c : mm_C} (hf : hO 0 ovU n (lX0_runs_40 N  m v0 v2 v3 v4 c) Q), mG Z qX0_runs X k w mc ms Q (40, [(0, .ref v0), (2, .ref v2), (3, .int v3), (4, .int v4)], [], (n, c)) := by
  intro m
  induction m with
  | zero => intro v0 v2 v3 v4 c hf; exact absurd hf hO_none
  | succ m ih => intro v0 v2 v3 v4 c hf; exact wX0_runs_40 C hRm hd hn hk hw (fun v0 v2 v3 v4 c hf => ih hf) hf
def bX0_runs_0 (N : Nat)  (v0 : Nat) (v1 : Nat) (v2 : Nat) (v3 : Int32) (c : mm_C) : mR Unit :=
  Option.bind (pR c v0 0 10 v1) fun c1 => Option.bind (gR c1 v0 0 8) fun x2 => cV 9 x2 c1 (fX9_copyFrom N x2 v2 c1) fun (_ : Unit) c3 => Option.bind (gR c3 v0 0 9) fun x4 => Option.bind (gR c3 v0 0 8) fun x5 => Option.bind (gI c3 v1 3 0) fun x6 => cV 1 x4 c3 (fX1_looks N x4 v1 x5 x6 c3) fun (_ : Unit) c7 => cV 0 v0 c7 (fX0_clears N v0 c7) fun (_ : Unit) c8 => cV 0 v0 c8 (fX0_findOpen N v0 c8) fun (_ : Unit) c9 => lX0_runs_40 N  N v0 v2 v3 (0 : Int32) c9
set_option maxRecDepth 100000 in
theorem wX0_runs_0 {Z : mm_Z} {X : mm_T} {k w mc ms d n N : Nat} {Q : mm_O → mm_H → Prop} (C : mm_Ok Z qX0_runs X) (hRm : mt_R X = mm_rm d mc ms) (hd : 5 ≤ d) (hn : n + 1 < 1000000) (hk : k + 1 ≤ mc) (hw : w + 6 ≤ ms) {v0 : Nat} {v1 : Nat} {v2 : Nat} {v3 : Int32} {c : mm_C} (hf : hO 0 ovU n (bX0_runs_0 N  v0 v1 v2 v3 c) Q) : mG Z qX0_runs X k w mc ms Q (0, [(0, .ref v0), (1, .ref v1), (2, .ref v2), (3, .int v3)], [], (n, c)) := by
  unfold bX0_runs_0 at hf
  refine mg_aload_n C rfl rfl ?_
  refine mg_aload_n C rfl rfl ?_
  refine mh_pR C rfl rfl rfl (by decide) rfl rfl rfl hf (fun c1 hf => ?_)
  refine mg_aload_n C rfl rfl ?_
  refine mh_gR C rfl rfl rfl (by decide) hf (fun x2 hf => ?_)
  refine mg_aload_n C rfl rfl ?_
  refine mh_cVU (M' := qX9_copyFrom) C rfl rfl aX9_copyFrom iX9_copyFrom sX9_copyFrom hRm (by omega) (by decide) (by omega) (by omega) rfl rfl rfl (Nat.le_of_ble_eq_true rfl) rfl hf (fun hs => wX9_copyFrom (by omega) (by omega) hs) (fun c3 hf => ?_)
  refine mg_aload_n C rfl rfl ?_
  refine mh_gR C rfl rfl rfl (by decide) hf (fun x4 hf => ?_)
  refine mg_aload_n C rfl rfl ?_
  refine mg_aload_n C rfl rfl ?_
  refine mh_gR C rfl rfl rfl (by decide) hf (fun x5 hf => ?_)
  refine mg_aload_n C rfl rfl ?_
  refine mh_gI C rfl rfl rfl (by decide) hf (fun x6 hf => ?_)
  refine mh_cVU (M' := qX1_looks) C rfl rfl aX1_looks iX1_looks sX1_looks hRm (by omega) (by decide) (by omega) (by omega) rfl rfl rfl (Nat.le_of_ble_eq_true rfl) rfl hf (fun hs => wX1_looks (by omega) (by omega) hs) (fun c7 hf => ?_)
  refine mg_aload_n C rfl rfl ?_
  refine mh_cVU (M' := qX0_clears) C rfl rfl aX0_clears iX0_clears sX0_clears hRm (by omega) (by decide) (by omega) (by omega) rfl rfl rfl (Nat.le_of_ble_eq_true rfl) rfl hf (fun hs => wX0_clears (by omega) (by omega) hs) (fun c8 hf => ?_)
  refine mg_aload_n C rfl rfl ?_
  refine mh_cVU (M' := qX0_findOpen) C rfl rfl aX0_findOpen iX0_findOpen sX0_findOpen hRm (by omega) (by decide) (by omega) (by omega) rfl rfl rfl (Nat.le_of_ble_eq_true rfl) rfl hf (fun hs => wX0_findOpen (by omega) (by omega) hs) (fun c9 hf => ?_)
  refine mg_iconst (v := 0) C rfl (by decide) ?_
  refine mg_istore (lv' := [(0, .ref v0), (1, .ref v1), (2, .ref v2), (3, .int v3), (4, .int (0 : Int32))]) C rfl (Nat.le_of_ble_eq_true rfl) rfl ?_
  refine mg_sub (lv' := [(0, .ref v0), (2, .ref v2), (3, .int v3), (4, .int (0 : Int32))]) (by simp) ?_
  exact WX0_runs_40 C hRm hd hn hk hw N hf
def fX0_runs (N : Nat) (v0 : Nat) (v1 : Nat) (v2 : Nat) (v3 : Int32) (c : mm_C) : mR Unit := bX0_runs_0 N v0 v1 v2 v3 c
set_option maxRecDepth 100000 in
theorem wX0_runs {Z : mm_Z} {d n N : Nat} (hd : 5 ≤ d) (hn : n + 1 < 1000000) {v0 : Nat} {v1 : Nat} {v2 : Nat} {v3 : Int32} {c : mm_C} (hs : (fX0_runs N v0 v1 v2 v3 c).isSome = true) : mC Z qX0_runs d 1 6 [.ref v0, .ref v1, .ref v2, .int v3] (n, c) (mP 0 ovU n (fX0_runs N v0 v1 v2 v3 c)) := by
  refine mC_of gX0_runs (by decide +kernel) (Nat.le_of_ble_eq_true rfl) fun X C hRm => ?_
  have hf := hO_mP 0 ovU n hs
  have hk : 0 + 1 ≤ 1 := Nat.le_of_ble_eq_true rfl
  have hw : 0 + 6 ≤ 6 := Nat.le_of_ble_eq_true rfl
  show mG _ _ _ _ _ _ _ _ (0, [(0, .ref v0), (1, .ref v1), (2, .ref v2), (3, .int v3)], [], (n, c))
  exact wX0_runs_0 C hRm hd hn hk hw hf
def bX0_isHadBy_0 (N : Nat)  (v0 : Nat) (v1 : Int32) (v2 : Int32) (c : mm_C) : mR Int32 :=
  Option.bind (gI c v0 0 0) fun x1 => if ¬ ((x1 >>> (v1 &&& 31)) &&& (1 : Int32)) = (1 : Int32) then (rZ (0 : Int32) c) else (Option.bind (gR c v0 0 6) fun x2 => Option.bind (aI c x2 v1) fun x3 => if (v2 + (1 : Int32)) < x3 then (rZ (0 : Int32) c) else (rZ (1 : Int32) c))
set_option maxRecDepth 100000 in
theorem wX0_isHadBy_0 {Z : mm_Z} {X : mm_T} {k w mc ms d n N : Nat} {Q : mm_O → mm_H → Prop} (C : mm_Ok Z qX0_isHadBy X) (hRm : mt_R X = mm_rm d mc ms) (hd : 1 ≤ d) (hn : n + 1 < 1000000) (hk : k + 1 ≤ mc) (hw : w + 6 ≤ ms) {v0 : Nat} {v1 : Int32} {v2 : Int32} {c : mm_C} (hf : hO 0 ovI n (bX0_isHadBy_0 N  v0 v1 v2 c) Q) : mG Z qX0_isHadBy X k w mc ms Q (0, [(0, .ref v0), (1, .int v1), (2, .int v2)], [], (n, c)) := by
  unfold bX0_isHadBy_0 at hf
  refine mg_aload_n C rfl rfl ?_
  refine mh_gI C rfl rfl rfl (by decide) hf (fun x1 hf => ?_)
  refine mg_iload_n C rfl rfl ?_
  refine mg_ishr C rfl ?_
  refine mg_iconst (v := 1) C rfl (by decide) ?_
  refine mg_iand C rfl ?_
  refine mg_iconst (v := 1) C rfl (by decide) ?_
  refine mh_icmp_ne C rfl hf (fun e_9 hf => ?_) (fun e_9 hf => ?_)
  · refine mg_iconst (v := 0) C rfl (by decide) ?_
    exact mh_zreturn C rfl (by omega) (by omega) rfl hf
  · refine mg_aload_n C rfl rfl ?_
    refine mh_gR C rfl rfl rfl (by decide) hf (fun x2 hf => ?_)
    refine mg_iload_n C rfl rfl ?_
    refine mh_aI C rfl hf (fun x3 hf => ?_)
    refine mg_iload_n C rfl rfl ?_
    refine mg_iconst (v := 1) C rfl (by decide) ?_
    refine mg_iadd C rfl ?_
    refine mh_icmp_gt C rfl hf (fun e_21 hf => ?_) (fun e_21 hf => ?_)
    · refine mg_iconst (v := 0) C rfl (by decide) ?_
      exact mh_zreturn C rfl (by omega) (by omega) rfl hf
    · refine mg_iconst (v := 1) C rfl (by decide) ?_
      refine mg_goto C rfl ?_
      exact mh_zreturn C rfl (by omega) (by omega) rfl hf
def fX0_isHadBy (N : Nat) (v0 : Nat) (v1 : Int32) (v2 : Int32) (c : mm_C) : mR Int32 := bX0_isHadBy_0 N v0 v1 v2 c
set_option maxRecDepth 100000 in
theorem wX0_isHadBy {Z : mm_Z} {d n N : Nat} (hd : 1 ≤ d) (hn : n + 1 < 1000000) {v0 : Nat} {v1 : Int32} {v2 : Int32} {c : mm_C} (hs : (fX0_isHadBy N v0 v1 v2 c).isSome = true) : mC Z qX0_isHadBy d 1 6 [.ref v0, .int v1, .int v2] (n, c) (mP 0 ovI n (fX0_isHadBy N v0 v1 v2 c)) := by
  refine mC_of gX0_isHadBy (by decide +kernel) (Nat.le_of_ble_eq_true rfl) fun X C hRm => ?_
  have hf := hO_mP 0 ovI n hs
  have hk : 0 + 1 ≤ 1 := Nat.le_of_ble_eq_true rfl
  have hw : 0 + 6 ≤ 6 := Nat.le_of_ble_eq_true rfl
  show mG _ _ _ _ _ _ _ _ (0, [(0, .ref v0), (1, .int v1), (2, .int v2)], [], (n, c))
  exact wX0_isHadBy_0 C hRm hd hn hk hw hf
