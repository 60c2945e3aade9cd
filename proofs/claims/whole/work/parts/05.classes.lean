/-! FIELDS, ARRAYS, NEW CELLS, over the small machine -/
def mm_ty : Nat → Nat → FieldType := fun c => match c with
  | 0 => tyX0
  | 1 => tyX1
  | 2 => tyX2
  | 3 => tyX3
  | 4 => tyX4
  | 5 => tyX5
  | 6 => tyX6
  | 7 => tyX7
  | 8 => tyX8
  | 9 => tyX9
  | 10 => tyX10
  | 11 => tyX11
  | _ => tyX12
theorem mm_l0 : ∀ w ∈ u_ws RX0 TX0 13, w ∈ mm_tbl := fun w hw => (fun h : w ∈ lw_tbl ∧ goodWord w = true => List.mem_filter.mpr h) (by have h := List.all_eq_true.mp (show (u_ws RX0 TX0 13).all (fun w => decide (w ∈ lw_tbl) && goodWord w) = true by decide +kernel) w hw; simpa using h)
theorem mm_l1 : ∀ w ∈ u_ws RX1 TX1 5, w ∈ mm_tbl := fun w hw => (fun h : w ∈ lw_tbl ∧ goodWord w = true => List.mem_filter.mpr h) (by have h := List.all_eq_true.mp (show (u_ws RX1 TX1 5).all (fun w => decide (w ∈ lw_tbl) && goodWord w) = true by decide +kernel) w hw; simpa using h)
theorem mm_l2 : ∀ w ∈ u_ws RX2 TX2 7, w ∈ mm_tbl := fun w hw => (fun h : w ∈ lw_tbl ∧ goodWord w = true => List.mem_filter.mpr h) (by have h := List.all_eq_true.mp (show (u_ws RX2 TX2 7).all (fun w => decide (w ∈ lw_tbl) && goodWord w) = true by decide +kernel) w hw; simpa using h)
theorem mm_l3 : ∀ w ∈ u_ws RX3 TX3 9, w ∈ mm_tbl := fun w hw => (fun h : w ∈ lw_tbl ∧ goodWord w = true => List.mem_filter.mpr h) (by have h := List.all_eq_true.mp (show (u_ws RX3 TX3 9).all (fun w => decide (w ∈ lw_tbl) && goodWord w) = true by decide +kernel) w hw; simpa using h)
theorem mm_l4 : ∀ w ∈ u_ws RX4 TX4 6, w ∈ mm_tbl := fun w hw => (fun h : w ∈ lw_tbl ∧ goodWord w = true => List.mem_filter.mpr h) (by have h := List.all_eq_true.mp (show (u_ws RX4 TX4 6).all (fun w => decide (w ∈ lw_tbl) && goodWord w) = true by decide +kernel) w hw; simpa using h)
theorem mm_l5 : ∀ w ∈ u_ws RX5 TX5 8, w ∈ mm_tbl := fun w hw => (fun h : w ∈ lw_tbl ∧ goodWord w = true => List.mem_filter.mpr h) (by have h := List.all_eq_true.mp (show (u_ws RX5 TX5 8).all (fun w => decide (w ∈ lw_tbl) && goodWord w) = true by decide +kernel) w hw; simpa using h)
theorem mm_l6 : ∀ w ∈ u_ws RX6 TX6 13, w ∈ mm_tbl := fun w hw => (fun h : w ∈ lw_tbl ∧ goodWord w = true => List.mem_filter.mpr h) (by have h := List.all_eq_true.mp (show (u_ws RX6 TX6 13).all (fun w => decide (w ∈ lw_tbl) && goodWord w) = true by decide +kernel) w hw; simpa using h)
theorem mm_l7 : ∀ w ∈ u_ws RX7 TX7 6, w ∈ mm_tbl := fun w hw => (fun h : w ∈ lw_tbl ∧ goodWord w = true => List.mem_filter.mpr h) (by have h := List.all_eq_true.mp (show (u_ws RX7 TX7 6).all (fun w => decide (w ∈ lw_tbl) && goodWord w) = true by decide +kernel) w hw; simpa using h)
theorem mm_l8 : ∀ w ∈ u_ws RX8 TX8 1, w ∈ mm_tbl := fun w hw => (fun h : w ∈ lw_tbl ∧ goodWord w = true => List.mem_filter.mpr h) (by have h := List.all_eq_true.mp (show (u_ws RX8 TX8 1).all (fun w => decide (w ∈ lw_tbl) && goodWord w) = true by decide +kernel) w hw; simpa using h)
theorem mm_l9 : ∀ w ∈ u_ws RX9 TX9 9, w ∈ mm_tbl := fun w hw => (fun h : w ∈ lw_tbl ∧ goodWord w = true => List.mem_filter.mpr h) (by have h := List.all_eq_true.mp (show (u_ws RX9 TX9 9).all (fun w => decide (w ∈ lw_tbl) && goodWord w) = true by decide +kernel) w hw; simpa using h)
theorem mm_l10 : ∀ w ∈ u_ws RX10 TX10 5, w ∈ mm_tbl := fun w hw => (fun h : w ∈ lw_tbl ∧ goodWord w = true => List.mem_filter.mpr h) (by have h := List.all_eq_true.mp (show (u_ws RX10 TX10 5).all (fun w => decide (w ∈ lw_tbl) && goodWord w) = true by decide +kernel) w hw; simpa using h)
theorem mm_l11 : ∀ w ∈ u_ws RX11 TX11 13, w ∈ mm_tbl := fun w hw => (fun h : w ∈ lw_tbl ∧ goodWord w = true => List.mem_filter.mpr h) (by have h := List.all_eq_true.mp (show (u_ws RX11 TX11 13).all (fun w => decide (w ∈ lw_tbl) && goodWord w) = true by decide +kernel) w hw; simpa using h)
theorem mm_l12 : ∀ w ∈ u_ws RX12 TX12 61, w ∈ mm_tbl := fun w hw => (fun h : w ∈ lw_tbl ∧ goodWord w = true => List.mem_filter.mpr h) (by have h := List.all_eq_true.mp (show (u_ws RX12 TX12 61).all (fun w => decide (w ∈ lw_tbl) && goodWord w) = true by decide +kernel) w hw; simpa using h)
/-- what the tables say of a class of the list -/
theorem mm_cls {ci : Nat} {C : String} {T : u_T} {N : Nat} (h : mm_cl[ci]? = some (C, T, N)) : (∀ w ∈ u_ws C T N, w ∈ mm_tbl) ∧ (∀ k, k < N → parseFieldDescriptor (T k).2.2.1 = some (mm_ty ci k)) ∧ (∀ a, a < N → ∀ b, b < N → a ≠ b → (T a).2.1 ≠ (T b).2.1) := by
  match ci, h with
  | 0, h => cases h; exact ⟨mm_l0, tyX0_ok, nmX0⟩
  | 1, h => cases h; exact ⟨mm_l1, tyX1_ok, nmX1⟩
  | 2, h => cases h; exact ⟨mm_l2, tyX2_ok, nmX2⟩
  | 3, h => cases h; exact ⟨mm_l3, tyX3_ok, nmX3⟩
  | 4, h => cases h; exact ⟨mm_l4, tyX4_ok, nmX4⟩
  | 5, h => cases h; exact ⟨mm_l5, tyX5_ok, nmX5⟩
  | 6, h => cases h; exact ⟨mm_l6, tyX6_ok, nmX6⟩
  | 7, h => cases h; exact ⟨mm_l7, tyX7_ok, nmX7⟩
  | 8, h => cases h; exact ⟨mm_l8, tyX8_ok, nmX8⟩
  | 9, h => cases h; exact ⟨mm_l9, tyX9_ok, nmX9⟩
  | 10, h => cases h; exact ⟨mm_l10, tyX10_ok, nmX10⟩
  | 11, h => cases h; exact ⟨mm_l11, tyX11_ok, nmX11⟩
  | 12, h => cases h; exact ⟨mm_l12, tyX12_ok, nmX12⟩
  | n + 13, h => simp [mm_cl] at h
