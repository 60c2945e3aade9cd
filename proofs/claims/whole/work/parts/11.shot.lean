/-! Shot -/
set_option maxRecDepth 100000 in
theorem vX7_place (Z : mm_Z) (h : mm_H) (o : Nat) (kd lt ln fr to af : Int32) (ho : h.2 o = some (.inr (7, [.int kd, .int lt, .int ln, .int fr, .int to, .int af]))) :
    mC Z qX7_place 0 0 0 [.ref o] h (fun r h' => r = .inl (some (.int (if kd = 2 then 1 else 0))) ∧ h' = h) := by
  refine mC_of gX7_place (by decide +kernel) (Nat.le_of_ble_eq_true rfl) fun X C hRm => ?_
  refine mg_aload_n C rfl rfl ?_
  refine mg_getfield C rfl rfl rfl (by decide) (by (repeat rw [mm_up_ne _ _ (by omega)]); first | assumption | exact mm_up_at _ _ _) rfl ?_
  refine mg_iconst (v := 2) C rfl (by decide) ?_
  refine mg_icmp_ne C rfl (fun c_5 => ?_) (fun c_5 => ?_)
  · refine mg_iconst (v := 0) C rfl (by decide) ?_
    exact mg_ireturn C rfl (by decide) (by decide) rfl (⟨by rw [if_neg c_5], rfl⟩)
  · refine mg_iconst (v := 1) C rfl (by decide) ?_
    refine mg_goto C rfl ?_
    exact mg_ireturn C rfl (by decide) (by decide) rfl (⟨by rw [if_pos c_5], rfl⟩)
