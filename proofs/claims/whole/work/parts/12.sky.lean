/-! Sky: 480 minutes, a bit each -/
def sk_b (b : Nat → Int32) (m : Nat) : Bool := bt (b (m / 32)) (m % 32)
def sk_on (b : Nat → Int32) (x : Int32) : Bool := if x < 0 then false else if x < 480 then sk_b b x.toNatClampNeg else false
def sk_i (c : Bool) : Int32 := if c then 1 else 0
set_option maxRecDepth 100000 in
theorem vX8_isSun (Z : mm_Z) (h : mm_H) (o j : Nat) (b : Nat → Int32) (x : Int32) (ho : h.2 o = some (.inr (8, [.ref j]))) (hj : h.2 j = some (.inl (.int, 15, .inl b))) :
    mC Z qX8_isSun 0 0 0 [.ref o, .int x] h (fun r h' => r = .inl (some (.int (sk_i (sk_on b x)))) ∧ h' = h) := by
  refine mC_of gX8_isSun (by decide +kernel) (Nat.le_of_ble_eq_true rfl) fun X C hRm => ?_
  refine mg_iload_n C rfl rfl ?_
  refine mg_if_lt C rfl (fun c_1 => ?_) (fun c_1 => ?_)
  · refine mg_iconst (v := 0) C rfl (by decide) ?_
    exact mg_zreturn C rfl (by decide) (by decide) rfl (by first | rfl | decide) (⟨by unfold sk_on; rw [if_pos c_1]; rfl, rfl⟩)
  · refine mg_iload_n C rfl rfl ?_
    refine mg_sipush (v := 480) C rfl (by decide) ?_
    refine mg_icmp_lt C rfl (fun c_8 => ?_) (fun c_8 => ?_)
    · obtain ⟨m, hm, rfl⟩ := s_min c_1 c_8
      refine mg_aload_n C rfl rfl ?_
      refine mg_getfield C rfl rfl rfl (by decide) (by (repeat rw [mm_up_ne _ _ (by omega)]); first | assumption | exact mm_up_at _ _ _) rfl ?_
      refine mg_iload_n C rfl rfl ?_
      refine mg_iconst (v := 5) C rfl (by decide) ?_
      refine mg_ishr C rfl ?_
      rw [s_div m hm]
      refine mg_iaload C rfl hj (vp_in_nI (by omega) (by omega)) ?_
      refine mg_iload_n C rfl rfl ?_
      refine mg_bipush (v := 31) C rfl (by decide) ?_
      refine mg_iand C rfl ?_
      rw [s_mod m hm]
      rw [nI_clamp (show m / 32 < 2 ^ 31 by omega)]
      have hbit : ∀ y : Int32, ((y.toUInt32 >>> ((nI (m % 32)).toUInt32 &&& Int32.toUInt32 31)).toInt32 &&& 1) = 1 ↔ bt y (m % 32) = true := fun y => by
        rw [b_and1, b_ushr (m % 32) (by omega) y 0, Nat.add_zero]
      have hon : sk_on b (nI m) = bt (b (m / 32)) (m % 32) := by
        unfold sk_on sk_b
        rw [if_neg c_1, if_pos c_8, nI_clamp (by omega)]
      refine mg_iushr C rfl ?_
      refine mg_iconst (v := 1) C rfl (by decide) ?_
      refine mg_iand C rfl ?_
      refine mg_iconst (v := 1) C rfl (by decide) ?_
      refine mg_icmp_ne C rfl (fun c_29 => ?_) (fun c_29 => ?_)
      · refine mg_iconst (v := 0) C rfl (by decide) ?_
        exact mg_zreturn C rfl (by decide) (by decide) rfl (by first | rfl | decide) (⟨by rw [hon, sk_i, if_neg (fun q => c_29 ((hbit _).mpr q))], rfl⟩)
      · refine mg_iconst (v := 1) C rfl (by decide) ?_
        refine mg_goto C rfl ?_
        exact mg_zreturn C rfl (by decide) (by decide) rfl (by first | rfl | decide) (⟨by rw [hon, sk_i, if_pos ((hbit _).mp c_29)], rfl⟩)
    · refine mg_iconst (v := 0) C rfl (by decide) ?_
      exact mg_zreturn C rfl (by decide) (by decide) rfl (by first | rfl | decide) (⟨by unfold sk_on; rw [if_neg c_1, if_neg c_8]; rfl, rfl⟩)
