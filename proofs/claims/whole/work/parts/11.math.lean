/-! Math.max, Math.min, Integer.bitCount -/
set_option maxRecDepth 100000 in
theorem vJ9_max (Z : mm_Z) (h : mm_H) (x y : Int32) : mC Z qJ9_max_7cf53 0 0 0 [.int x, .int y] h (fun r h' => r = .inl (some (.int (if x < y then y else x))) ∧ h' = h) := by
  refine mC_of gJ9_max_7cf53 (by decide +kernel) (Nat.le_of_ble_eq_true rfl) fun X C hRm => ?_
  refine mg_iload_n C rfl rfl ?_
  refine mg_iload_n C rfl rfl ?_
  refine mg_icmp_lt C rfl (fun c_2 => ?_) (fun c_2 => ?_)
  · refine mg_iload_n C rfl rfl ?_
    exact mg_ireturn C rfl (by decide) (by decide) rfl (⟨by rw [if_pos c_2], rfl⟩)
  · refine mg_iload_n C rfl rfl ?_
    refine mg_goto C rfl ?_
    exact mg_ireturn C rfl (by decide) (by decide) rfl (⟨by rw [if_neg c_2], rfl⟩)
set_option maxRecDepth 100000 in
theorem vJ9_min (Z : mm_Z) (h : mm_H) (x y : Int32) : mC Z qJ9_min_7cf53 0 0 0 [.int x, .int y] h (fun r h' => r = .inl (some (.int (if y < x then y else x))) ∧ h' = h) := by
  refine mC_of gJ9_min_7cf53 (by decide +kernel) (Nat.le_of_ble_eq_true rfl) fun X C hRm => ?_
  refine mg_iload_n C rfl rfl ?_
  refine mg_iload_n C rfl rfl ?_
  refine mg_icmp_gt C rfl (fun c_2 => ?_) (fun c_2 => ?_)
  · refine mg_iload_n C rfl rfl ?_
    exact mg_ireturn C rfl (by decide) (by decide) rfl (⟨by rw [if_pos c_2], rfl⟩)
  · refine mg_iload_n C rfl rfl ?_
    refine mg_goto C rfl ?_
    exact mg_ireturn C rfl (by decide) (by decide) rfl (⟨by rw [if_neg c_2], rfl⟩)
