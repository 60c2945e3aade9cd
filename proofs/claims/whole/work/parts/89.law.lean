/- needs: 88.pstep -/
/-! the law, call by call -/
section LAW
variable {N : Nat} {xs : Nat → Int32} {L i : Nat} {s : sg}
theorem sc_v (hL : L ≤ 3072) {j : Nat} (hj : j < L) : sc xs L (nI j) = some (xs j) := by
  unfold sc
  rw [if_pos (inB_A (inA_nI hj (by omega))), nI_clamp (by omega)]
theorem sc_1 (hL : L ≤ 3072) (hi : i + 6 ≤ L) : sc xs L (nI i + (1 : Int32)) = some (xs (i + 1)) := by
  rw [show nI i + (1 : Int32) = nI (i + 1) from nI_add i 1]; exact sc_v hL (by omega)
theorem sc_2 (hL : L ≤ 3072) (hi : i + 6 ≤ L) : sc xs L (nI i + (2 : Int32)) = some (xs (i + 2)) := by
  rw [show nI i + (2 : Int32) = nI (i + 2) from nI_add i 2]; exact sc_v hL (by omega)
theorem sc_3 (hL : L ≤ 3072) (hi : i + 6 ≤ L) : sc xs L (nI i + (3 : Int32)) = some (xs (i + 3)) := by
  rw [show nI i + (3 : Int32) = nI (i + 3) from nI_add i 3]; exact sc_v hL (by omega)
theorem sc_4 (hL : L ≤ 3072) (hi : i + 6 ≤ L) : sc xs L (nI i + (4 : Int32)) = some (xs (i + 4)) := by
  rw [show nI i + (4 : Int32) = nI (i + 4) from nI_add i 4]; exact sc_v hL (by omega)
theorem sc_5 (hL : L ≤ 3072) (hi : i + 6 ≤ L) : sc xs L (nI i + (5 : Int32)) = some (xs (i + 5)) := by
  rw [show nI i + (5 : Int32) = nI (i + 5) from nI_add i 5]; exact sc_v hL (by omega)
theorem sc_6 (i : Nat) : nI i + (6 : Int32) = nI (i + 6) := nI_add i 6
theorem cs_204 (hN2 : 2000 ≤ N) (hL : L ≤ 3072) (hi : i + 6 ≤ L) (hI : Inv s) : ∃ s', Inv s' ∧ ∀ k23, bL_law_204 N xs L k23 0 419 453 (nI i) (mk s) = k23 0 419 453 (nI (i + 6)) (mk s') := by
  obtain ⟨s', h1, h2⟩ := st_feed (N := N) hN2 (xs (i + 1)) (xs (i + 2)) (xs (i + 3)) (xs (i + 4)) (xs (i + 5)) s hI
  refine ⟨s', h1, fun k23 => ?_⟩
  unfold bL_law_204
  simp only [sc_1 hL hi, sc_2 hL hi, sc_3 hL hi, sc_4 hL hi, sc_5 hL hi, ob_s, sc_6]
  exact h2 (fun c => k23 0 419 453 (nI (i + 6)) c)
theorem cs_277 (hN2 : 2000 ≤ N) (hL : L ≤ 3072) (hi : i + 6 ≤ L) (hI : Inv s) : ∃ s', Inv s' ∧ ∀ k23, bL_law_277 N xs L k23 0 419 453 (nI i) (mk s) = k23 0 419 453 (nI (i + 6)) (mk s') := by
  obtain ⟨s', h1, h2⟩ := st_plan (N := N) hN2 (xs (i + 1)) s hI
  refine ⟨s', h1, fun k23 => ?_⟩
  unfold bL_law_277
  simp only [sc_1 hL hi, ob_s, sc_6]
  exact h2 (fun c => k23 0 419 453 (nI (i + 6)) c)
theorem cs_333 (hN2 : 2000 ≤ N) (hL : L ≤ 3072) (hi : i + 6 ≤ L) (hI : Inv s) : ∃ s', Inv s' ∧ ∀ k23, bL_law_333 N xs L k23 0 419 453 (nI i) (mk s) = k23 0 419 453 (nI (i + 6)) (mk s') := by
  obtain ⟨s', h1, h2⟩ := st_fault (N := N) hN2  s hI
  refine ⟨s', h1, fun k23 => ?_⟩
  unfold bL_law_333
  simp only [sc_6]
  exact h2 (fun c => k23 0 419 453 (nI (i + 6)) c)
theorem cs_346 (hN2 : 2000 ≤ N) (hL : L ≤ 3072) (hi : i + 6 ≤ L) (hI : Inv s) : ∃ s', Inv s' ∧ ∀ k23, bL_law_346 N xs L k23 0 419 453 (nI i) (mk s) = k23 0 419 453 (nI (i + 6)) (mk s') := by
  obtain ⟨s', h1, h2⟩ := st_count (N := N) hN2 (xs (i + 1)) s hI
  refine ⟨s', h1, fun k23 => ?_⟩
  unfold bL_law_346
  simp only [sc_1 hL hi, ob_s, sc_6]
  exact h2 (fun c => k23 0 419 453 (nI (i + 6)) c)
theorem cs_402 (hN2 : 2000 ≤ N) (hL : L ≤ 3072) (hi : i + 6 ≤ L) (hI : Inv s) : ∃ s', Inv s' ∧ ∀ k23, bL_law_402 N xs L k23 0 419 453 (nI i) (mk s) = k23 0 419 453 (nI (i + 6)) (mk s') := by
  obtain ⟨s', h1, h2⟩ := st_shot (N := N) hN2 (xs (i + 1)) (xs (i + 2)) s hI
  refine ⟨s', h1, fun k23 => ?_⟩
  unfold bL_law_402
  simp only [sc_1 hL hi, sc_2 hL hi, ob_s, sc_6]
  exact h2 (fun c => k23 0 419 453 (nI (i + 6)) c)
theorem cs_470 (hN2 : 2000 ≤ N) (hL : L ≤ 3072) (hi : i + 6 ≤ L) (hI : Inv s) : ∃ s', Inv s' ∧ ∀ k23, bL_law_470 N xs L k23 0 419 453 (nI i) (mk s) = k23 0 419 453 (nI (i + 6)) (mk s') := by
  obtain ⟨s', h1, h2⟩ := st_sky (N := N) hN2 (xs (i + 1)) (xs (i + 2)) s hI
  refine ⟨s', h1, fun k23 => ?_⟩
  unfold bL_law_470
  simp only [sc_1 hL hi, sc_2 hL hi, ob_s, sc_6]
  exact h2 (fun c => k23 0 419 453 (nI (i + 6)) c)
theorem cs_538 (hN2 : 2000 ≤ N) (hL : L ≤ 3072) (hi : i + 6 ≤ L) (hI : Inv s) : ∃ s', Inv s' ∧ ∀ k23, bL_law_538 N xs L k23 0 419 453 (nI i) (mk s) = k23 0 419 453 (nI (i + 6)) (mk s') := by
  obtain ⟨s', h1, h2⟩ := st_why (N := N) hN2 (xs (i + 1)) (xs (i + 2)) s hI
  refine ⟨s', h1, fun k23 => ?_⟩
  unfold bL_law_538
  simp only [sc_1 hL hi, sc_2 hL hi, ob_s, sc_6]
  exact h2 (fun c => k23 0 419 453 (nI (i + 6)) c)
theorem cs_606 (hN2 : 2000 ≤ N) (hL : L ≤ 3072) (hi : i + 6 ≤ L) (hI : Inv s) : ∃ s', Inv s' ∧ ∀ k23, bL_law_606 N xs L k23 0 419 453 (nI i) (mk s) = k23 0 419 453 (nI (i + 6)) (mk s') := by
  obtain ⟨s', h1, h2⟩ := st_ready (N := N) hN2 (xs (i + 1)) s hI
  refine ⟨s', h1, fun k23 => ?_⟩
  unfold bL_law_606
  simp only [sc_1 hL hi, ob_s, sc_6]
  exact h2 (fun c => k23 0 419 453 (nI (i + 6)) c)
theorem cs_662 (hN2 : 2000 ≤ N) (hL : L ≤ 3072) (hi : i + 6 ≤ L) (hI : Inv s) : ∃ s', Inv s' ∧ ∀ k23, bL_law_662 N xs L k23 0 419 453 (nI i) (mk s) = k23 0 419 453 (nI (i + 6)) (mk s') := by
  obtain ⟨s', h1, h2⟩ := st_edge (N := N) hN2 (xs (i + 1)) s hI
  refine ⟨s', h1, fun k23 => ?_⟩
  unfold bL_law_662
  simp only [sc_1 hL hi, ob_s, sc_6]
  exact h2 (fun c => k23 0 419 453 (nI (i + 6)) c)
theorem cs_718 (hN2 : 2000 ≤ N) (hL : L ≤ 3072) (hi : i + 6 ≤ L) (hI : Inv s) : ∃ s', Inv s' ∧ ∀ k23, bL_law_718 N xs L k23 0 419 453 (nI i) (mk s) = k23 0 419 453 (nI (i + 6)) (mk s') := by
  obtain ⟨s', h1, h2⟩ := st_take (N := N) hN2 (xs (i + 1)) s hI
  refine ⟨s', h1, fun k23 => ?_⟩
  unfold bL_law_718
  simp only [sc_1 hL hi, ob_s, sc_6]
  exact h2 (fun c => k23 0 419 453 (nI (i + 6)) c)
theorem cs_774 (hN2 : 2000 ≤ N) (hL : L ≤ 3072) (hi : i + 6 ≤ L) (hI : Inv s) : ∃ s', Inv s' ∧ ∀ k23, bL_law_774 N xs L k23 0 419 453 (nI i) (mk s) = k23 0 419 453 (nI (i + 6)) (mk s') := by
  obtain ⟨s', h1, h2⟩ := st_await (N := N) hN2 (xs (i + 1)) s hI
  refine ⟨s', h1, fun k23 => ?_⟩
  unfold bL_law_774
  simp only [sc_1 hL hi, ob_s, sc_6]
  exact h2 (fun c => k23 0 419 453 (nI (i + 6)) c)
theorem cs_799 (hN2 : 2000 ≤ N) (hL : L ≤ 3072) (hi : i + 6 ≤ L) (hI : Inv s) : ∃ s', Inv s' ∧ ∀ k23, bL_law_799 N xs L k23 0 419 453 (nI i) (mk s) = k23 0 419 453 (nI (i + 6)) (mk s') := by
  by_cases hx : xs (i + 1) = 0
  · obtain ⟨s', h1, h2⟩ := st_move (N := N) hN2  false s hI
    refine ⟨s', h1, fun k23 => ?_⟩
    unfold bL_law_799
    simp only [sc_1 hL hi, ob_s, sc_6, if_pos hx]
    exact h2 (fun c => k23 0 419 453 (nI (i + 6)) c)
  · obtain ⟨s', h1, h2⟩ := st_move (N := N) hN2  true s hI
    refine ⟨s', h1, fun k23 => ?_⟩
    unfold bL_law_799
    simp only [sc_1 hL hi, ob_s, sc_6, if_neg hx]
    exact h2 (fun c => k23 0 419 453 (nI (i + 6)) c)
theorem cs_840 (hN2 : 2000 ≤ N) (hL : L ≤ 3072) (hi : i + 6 ≤ L) (hI : Inv s) : ∃ s', Inv s' ∧ ∀ k23, bL_law_840 N xs L k23 0 419 453 (nI i) (mk s) = k23 0 419 453 (nI (i + 6)) (mk s') := by
  by_cases hx : xs (i + 2) = 0
  · obtain ⟨s', h1, h2⟩ := st_sets (N := N) hN2 (xs (i + 1)) false s hI
    refine ⟨s', h1, fun k23 => ?_⟩
    unfold bL_law_840
    simp only [sc_1 hL hi, sc_2 hL hi, ob_s, sc_6, if_pos hx]
    exact (lwB_eq N (fX11_sets N 0 (xs (i + 1)) (sk_i false)) (fX12_sets N 419 (xs (i + 1)) (sk_i false)) (fun c => k23 0 419 453 (nI (i + 6)) c) (mk s)).trans (h2 (fun c => k23 0 419 453 (nI (i + 6)) c))
  · obtain ⟨s', h1, h2⟩ := st_sets (N := N) hN2 (xs (i + 1)) true s hI
    refine ⟨s', h1, fun k23 => ?_⟩
    unfold bL_law_840
    simp only [sc_1 hL hi, sc_2 hL hi, ob_s, sc_6, if_neg hx]
    exact (lwB_eq N (fX11_sets N 0 (xs (i + 1)) (sk_i true)) (fX12_sets N 419 (xs (i + 1)) (sk_i true)) (fun c => k23 0 419 453 (nI (i + 6)) c) (mk s)).trans (h2 (fun c => k23 0 419 453 (nI (i + 6)) c))
theorem cs_931 (hN2 : 2000 ≤ N) (hL : L ≤ 3072) (hi : i + 6 ≤ L) (hI : Inv s) : ∃ s', Inv s' ∧ ∀ k23, bL_law_931 N xs L k23 0 419 453 (nI i) (mk s) = k23 0 419 453 (nI (i + 6)) (mk s') := by
  by_cases hx : xs (i + 3) = 0
  · obtain ⟨s', h1, h2⟩ := st_clouds (N := N) hN2 (xs (i + 1)) (xs (i + 2)) false s hI
    refine ⟨s', h1, fun k23 => ?_⟩
    unfold bL_law_931
    simp only [sc_1 hL hi, sc_2 hL hi, sc_3 hL hi, ob_s, sc_6, if_pos hx]
    exact h2 (fun c => k23 0 419 453 (nI (i + 6)) c)
  · obtain ⟨s', h1, h2⟩ := st_clouds (N := N) hN2 (xs (i + 1)) (xs (i + 2)) true s hI
    refine ⟨s', h1, fun k23 => ?_⟩
    unfold bL_law_931
    simp only [sc_1 hL hi, sc_2 hL hi, sc_3 hL hi, ob_s, sc_6, if_neg hx]
    exact h2 (fun c => k23 0 419 453 (nI (i + 6)) c)
theorem cs_996 (hN2 : 2000 ≤ N) (hL : L ≤ 3072) (hi : i + 6 ≤ L) (hI : Inv s) : ∃ s', Inv s' ∧ ∀ k23, bL_law_996 N xs L k23 0 419 453 (nI i) (mk s) = k23 0 419 453 (nI (i + 6)) (mk s') := by
  obtain ⟨s', h1, h2⟩ := st_undo (N := N) hN2  s hI
  refine ⟨s', h1, fun k23 => ?_⟩
  unfold bL_law_996
  simp only [sc_6]
  exact h2 (fun c => k23 0 419 453 (nI (i + 6)) c)
theorem cs_1009 (hN2 : 2000 ≤ N) (hL : L ≤ 3072) (hi : i + 6 ≤ L) (hI : Inv s) : ∃ s', Inv s' ∧ ∀ k23, bL_law_1009 N xs L k23 0 419 453 (nI i) (mk s) = k23 0 419 453 (nI (i + 6)) (mk s') := by
  obtain ⟨s', h1, h2⟩ := st_day (N := N) hN2 (xs (i + 1)) (xs (i + 2)) s hI
  refine ⟨s', h1, fun k23 => ?_⟩
  unfold bL_law_1009
  simp only [sc_1 hL hi, sc_2 hL hi, ob_s, sc_6]
  exact h2 (fun c => k23 0 419 453 (nI (i + 6)) c)
theorem cs_1077 (hN2 : 2000 ≤ N) (hL : L ≤ 3072) (hi : i + 6 ≤ L) (hI : Inv s) : ∃ s', Inv s' ∧ ∀ k23, bL_law_1077 N xs L k23 0 419 453 (nI i) (mk s) = k23 0 419 453 (nI (i + 6)) (mk s') := by
  obtain ⟨s', h1, h2⟩ := st_best (N := N) hN2  s hI
  refine ⟨s', h1, fun k23 => ?_⟩
  unfold bL_law_1077
  simp only [sc_6]
  exact h2 (fun c => k23 0 419 453 (nI (i + 6)) c)
theorem cs_1090 (hN2 : 2000 ≤ N) (hL : L ≤ 3072) (hi : i + 6 ≤ L) (hI : Inv s) : ∃ s', Inv s' ∧ ∀ k23, bL_law_1090 N xs L k23 0 419 453 (nI i) (mk s) = k23 0 419 453 (nI (i + 6)) (mk s') := by
  obtain ⟨s', h1, h2⟩ := st_most (N := N) hN2 (xs (i + 1)) s hI
  refine ⟨s', h1, fun k23 => ?_⟩
  unfold bL_law_1090
  simp only [sc_1 hL hi, ob_s, sc_6]
  exact h2 (fun c => k23 0 419 453 (nI (i + 6)) c)
theorem cs_1146 (hN2 : 2000 ≤ N) (hL : L ≤ 3072) (hi : i + 6 ≤ L) (hI : Inv s) : ∃ s', Inv s' ∧ ∀ k23, bL_law_1146 N xs L k23 0 419 453 (nI i) (mk s) = k23 0 419 453 (nI (i + 6)) (mk s') := by
  obtain ⟨s', h1, h2⟩ := st_order (N := N) hN2 (xs (i + 1)) s hI
  refine ⟨s', h1, fun k23 => ?_⟩
  unfold bL_law_1146
  simp only [sc_1 hL hi, ob_s, sc_6]
  exact h2 (fun c => k23 0 419 453 (nI (i + 6)) c)
theorem cs_1202 (hN2 : 2000 ≤ N) (hL : L ≤ 3072) (hi : i + 6 ≤ L) (hI : Inv s) : ∃ s', Inv s' ∧ ∀ k23, bL_law_1202 N xs L k23 0 419 453 (nI i) (mk s) = k23 0 419 453 (nI (i + 6)) (mk s') := by
  obtain ⟨s', h1, h2⟩ := st_soonest (N := N) hN2 (xs (i + 1)) s hI
  refine ⟨s', h1, fun k23 => ?_⟩
  unfold bL_law_1202
  simp only [sc_1 hL hi, ob_s, sc_6]
  exact h2 (fun c => k23 0 419 453 (nI (i + 6)) c)
theorem cs_1258 (hN2 : 2000 ≤ N) (hL : L ≤ 3072) (hi : i + 6 ≤ L) (hI : Inv s) : ∃ s', Inv s' ∧ ∀ k23, bL_law_1258 N xs L k23 0 419 453 (nI i) (mk s) = k23 0 419 453 (nI (i + 6)) (mk s') := by
  obtain ⟨s', h1, h2⟩ := st_inside (N := N) hN2  s hI
  refine ⟨s', h1, fun k23 => ?_⟩
  unfold bL_law_1258
  simp only [sc_6]
  exact h2 (fun c => k23 0 419 453 (nI (i + 6)) c)
theorem cs_1271 (hN2 : 2000 ≤ N) (hL : L ≤ 3072) (hi : i + 6 ≤ L) (hI : Inv s) : ∃ s', Inv s' ∧ ∀ k23, bL_law_1271 N xs L k23 0 419 453 (nI i) (mk s) = k23 0 419 453 (nI (i + 6)) (mk s') := by
  obtain ⟨s', h1, h2⟩ := st_worth (N := N) hN2 (xs (i + 1)) s hI
  refine ⟨s', h1, fun k23 => ?_⟩
  unfold bL_law_1271
  simp only [sc_1 hL hi, ob_s, sc_6]
  exact h2 (fun c => k23 0 419 453 (nI (i + 6)) c)
theorem cs_1327 (hN2 : 2000 ≤ N) (hL : L ≤ 3072) (hi : i + 6 ≤ L) (hI : Inv s) : ∃ s', Inv s' ∧ ∀ k23, bL_law_1327 N xs L k23 0 419 453 (nI i) (mk s) = k23 0 419 453 (nI (i + 6)) (mk s') := by
  obtain ⟨s', h1, h2⟩ := st_chances (N := N) hN2 (xs (i + 1)) (xs (i + 2)) s hI
  refine ⟨s', h1, fun k23 => ?_⟩
  unfold bL_law_1327
  simp only [sc_1 hL hi, sc_2 hL hi, ob_s, sc_6]
  exact h2 (fun c => k23 0 419 453 (nI (i + 6)) c)
theorem cs_1395 (hN2 : 2000 ≤ N) (hL : L ≤ 3072) (hi : i + 6 ≤ L) (hI : Inv s) : ∃ s', Inv s' ∧ ∀ k23, bL_law_1395 N xs L k23 0 419 453 (nI i) (mk s) = k23 0 419 453 (nI (i + 6)) (mk s') := by
  obtain ⟨s', h1, h2⟩ := st_without (N := N) hN2 (xs (i + 1)) s hI
  refine ⟨s', h1, fun k23 => ?_⟩
  unfold bL_law_1395
  simp only [sc_1 hL hi, ob_s, sc_6]
  exact h2 (fun c => k23 0 419 453 (nI (i + 6)) c)
theorem cs_1451 (hN2 : 2000 ≤ N) (hL : L ≤ 3072) (hi : i + 6 ≤ L) (hI : Inv s) : ∃ s', Inv s' ∧ ∀ k23, bL_law_1451 N xs L k23 0 419 453 (nI i) (mk s) = k23 0 419 453 (nI (i + 6)) (mk s') := by
  obtain ⟨s', h1, h2⟩ := st_shorter (N := N) hN2 (xs (i + 1)) s hI
  refine ⟨s', h1, fun k23 => ?_⟩
  unfold bL_law_1451
  simp only [sc_1 hL hi, ob_s, sc_6]
  exact h2 (fun c => k23 0 419 453 (nI (i + 6)) c)
theorem cs_1507 (hN2 : 2000 ≤ N) (hL : L ≤ 3072) (hi : i + 6 ≤ L) (hI : Inv s) : ∃ s', Inv s' ∧ ∀ k23, bL_law_1507 N xs L k23 0 419 453 (nI i) (mk s) = k23 0 419 453 (nI (i + 6)) (mk s') := by
  obtain ⟨s', h1, h2⟩ := st_idle (N := N) hN2 (xs (i + 1)) (xs (i + 2)) s hI
  refine ⟨s', h1, fun k23 => ?_⟩
  unfold bL_law_1507
  simp only [sc_1 hL hi, sc_2 hL hi, ob_s, sc_6]
  exact h2 (fun c => k23 0 419 453 (nI (i + 6)) c)
theorem cs_1575 (hN2 : 2000 ≤ N) (hL : L ≤ 3072) (hi : i + 6 ≤ L) (hI : Inv s) : ∃ s', Inv s' ∧ ∀ k23, bL_law_1575 N xs L k23 0 419 453 (nI i) (mk s) = k23 0 419 453 (nI (i + 6)) (mk s') := by
  obtain ⟨s', h1, h2⟩ := st_regret (N := N) hN2  s hI
  refine ⟨s', h1, fun k23 => ?_⟩
  unfold bL_law_1575
  simp only [sc_6]
  exact h2 (fun c => k23 0 419 453 (nI (i + 6)) c)
theorem cs_1588 (hN2 : 2000 ≤ N) (hL : L ≤ 3072) (hi : i + 6 ≤ L) (hI : Inv s) : ∃ s', Inv s' ∧ ∀ k23, bL_law_1588 N xs L k23 0 419 453 (nI i) (mk s) = k23 0 419 453 (nI (i + 6)) (mk s') := by
  obtain ⟨s', h1, h2⟩ := st_holes (N := N) hN2 (xs (i + 1)) s hI
  refine ⟨s', h1, fun k23 => ?_⟩
  unfold bL_law_1588
  simp only [sc_1 hL hi, ob_s, sc_6]
  exact h2 (fun c => k23 0 419 453 (nI (i + 6)) c)
theorem cs_1644 (hN2 : 2000 ≤ N) (hL : L ≤ 3072) (hi : i + 6 ≤ L) (hI : Inv s) : ∃ s', Inv s' ∧ ∀ k23, bL_law_1644 N xs L k23 0 419 453 (nI i) (mk s) = k23 0 419 453 (nI (i + 6)) (mk s') := by
  obtain ⟨s', h1, h2⟩ := st_hole (N := N) hN2 (xs (i + 1)) s hI
  refine ⟨s', h1, fun k23 => ?_⟩
  unfold bL_law_1644
  simp only [sc_1 hL hi, ob_s, sc_6]
  exact h2 (fun c => k23 0 419 453 (nI (i + 6)) c)
theorem cs_1700 (hN2 : 2000 ≤ N) (hL : L ≤ 3072) (hi : i + 6 ≤ L) (hI : Inv s) : ∃ s', Inv s' ∧ ∀ k23, bL_law_1700 N xs L k23 0 419 453 (nI i) (mk s) = k23 0 419 453 (nI (i + 6)) (mk s') := by
  obtain ⟨s', h1, h2⟩ := st_lasts (N := N) hN2 (xs (i + 1)) (xs (i + 2)) (xs (i + 3)) s hI
  refine ⟨s', h1, fun k23 => ?_⟩
  unfold bL_law_1700
  simp only [sc_1 hL hi, sc_2 hL hi, sc_3 hL hi, ob_s, sc_6]
  exact h2 (fun c => k23 0 419 453 (nI (i + 6)) c)
theorem cs_1779 (hN2 : 2000 ≤ N) (hL : L ≤ 3072) (hi : i + 6 ≤ L) (hI : Inv s) : ∃ s', Inv s' ∧ ∀ k23, bL_law_1779 N xs L k23 0 419 453 (nI i) (mk s) = k23 0 419 453 (nI (i + 6)) (mk s') := by
  obtain ⟨s', h1, h2⟩ := st_trial (N := N) hN2 (xs (i + 1)) (xs (i + 2)) (xs (i + 3)) (xs (i + 4)) s hI
  refine ⟨s', h1, fun k23 => ?_⟩
  unfold bL_law_1779
  simp only [sc_1 hL hi, sc_2 hL hi, sc_3 hL hi, sc_4 hL hi, ob_s, sc_6]
  exact h2 (fun c => k23 0 419 453 (nI (i + 6)) c)
theorem cs_1870 (hN2 : 2000 ≤ N) (hL : L ≤ 3072) (hi : i + 6 ≤ L) (hI : Inv s) : ∃ s', Inv s' ∧ ∀ k23, bL_law_1870 N xs L k23 0 419 453 (nI i) (mk s) = k23 0 419 453 (nI (i + 6)) (mk s') := by
  by_cases hx : xs (i + 3) = 0
  · obtain ⟨s', h1, h2⟩ := st_see (N := N) hN2 (xs (i + 1)) (xs (i + 2)) false s hI
    refine ⟨s', h1, fun k23 => ?_⟩
    unfold bL_law_1870
    simp only [sc_1 hL hi, sc_2 hL hi, sc_3 hL hi, ob_s, sc_6, if_pos hx]
    exact h2 (fun c => k23 0 419 453 (nI (i + 6)) c)
  · obtain ⟨s', h1, h2⟩ := st_see (N := N) hN2 (xs (i + 1)) (xs (i + 2)) true s hI
    refine ⟨s', h1, fun k23 => ?_⟩
    unfold bL_law_1870
    simp only [sc_1 hL hi, sc_2 hL hi, sc_3 hL hi, ob_s, sc_6, if_neg hx]
    exact h2 (fun c => k23 0 419 453 (nI (i + 6)) c)
theorem cs_1966 (hN2 : 2000 ≤ N) (hL : L ≤ 3072) (hi : i + 6 ≤ L) (hI : Inv s) : ∃ s', Inv s' ∧ ∀ k23, bL_law_1966 N xs L k23 0 419 453 (nI i) (mk s) = k23 0 419 453 (nI (i + 6)) (mk s') := by
  obtain ⟨s', h1, h2⟩ := st_which (N := N) hN2  s hI
  refine ⟨s', h1, fun k23 => ?_⟩
  unfold bL_law_1966
  simp only [sc_6]
  exact h2 (fun c => k23 0 419 453 (nI (i + 6)) c)
theorem cs_1979 (hN2 : 2000 ≤ N) (hL : L ≤ 3072) (hi : i + 6 ≤ L) (hI : Inv s) : ∃ s', Inv s' ∧ ∀ k23, bL_law_1979 N xs L k23 0 419 453 (nI i) (mk s) = k23 0 419 453 (nI (i + 6)) (mk s') := by
  obtain ⟨s', h1, h2⟩ := st_forget (N := N) hN2  s hI
  refine ⟨s', h1, fun k23 => ?_⟩
  unfold bL_law_1979
  simp only [sc_6]
  exact h2 (fun c => k23 0 419 453 (nI (i + 6)) c)
theorem cs_1990 (hN2 : 2000 ≤ N) (hL : L ≤ 3072) (hi : i + 6 ≤ L) (hI : Inv s) : ∃ s', Inv s' ∧ ∀ k23, bL_law_1990 N xs L k23 0 419 453 (nI i) (mk s) = k23 0 419 453 (nI (i + 6)) (mk s') := by
  obtain ⟨s', h1, h2⟩ := st_week (N := N) hN2 (xs (i + 1)) (xs (i + 2)) (xs (i + 3)) (xs (i + 4)) s hI
  refine ⟨s', h1, fun k23 => ?_⟩
  unfold bL_law_1990
  simp only [sc_1 hL hi, sc_2 hL hi, sc_3 hL hi, sc_4 hL hi, ob_s, sc_6]
  exact h2 (fun c => k23 0 419 453 (nI (i + 6)) c)
theorem cs_2082 (hN2 : 2000 ≤ N) (hL : L ≤ 3072) (hi : i + 6 ≤ L) (hI : Inv s) : ∃ s', Inv s' ∧ ∀ k23, bL_law_2082 N xs L k23 0 419 453 (nI i) (mk s) = k23 0 419 453 (nI (i + 6)) (mk s') := by
  obtain ⟨s', h1, h2⟩ := st_image (N := N) hN2  s hI
  refine ⟨s', h1, fun k23 => ?_⟩
  unfold bL_law_2082
  simp only [sc_6]
  exact h2 (fun c => k23 0 419 453 (nI (i + 6)) c)
theorem cs_2093 (hN2 : 2000 ≤ N) (hL : L ≤ 3072) (hi : i + 6 ≤ L) (hI : Inv s) : ∃ s', Inv s' ∧ ∀ k23, bL_law_2093 N xs L k23 0 419 453 (nI i) (mk s) = k23 0 419 453 (nI (i + 6)) (mk s') := by
  obtain ⟨s', h1, h2⟩ := st_restore (N := N) hN2  s hI
  refine ⟨s', h1, fun k23 => ?_⟩
  unfold bL_law_2093
  simp only [sc_6]
  exact h2 (fun c => k23 0 419 453 (nI (i + 6)) c)
theorem law_end (hi : ¬ Int32.ofNat L - 6 < nI i) (hL : L ≤ 3072) (hi2 : i ≤ L + 6) : i + 6 ≤ L := by
  by_cases c : 6 ≤ L
  · have e : Int32.ofNat L - 6 = nI (L - 6) := nI_sub (b := 6) c
    rw [e] at hi
    by_cases c2 : L - 6 < i
    · exact absurd (nI_lt c2 (by omega)) hi
    · omega
  · exfalso
    apply hi
    have h1 : ∀ L, L < 6 → (Int32.ofNat L - 6 : Int32).toInt < 0 := by decide +kernel
    have h2 := i32_le.mp (nI_le (a := 0) (b := i) (Nat.zero_le _) (by omega))
    have e0 : (nI 0).toInt = 0 := by decide
    have h3 := h1 L (by omega)
    rw [i32_lt]
    omega
theorem law_loop (hN2 : 2000 ≤ N) (hL : L ≤ 3072) : ∀ (f i : Nat) (s : sg), L + 6 < 6 * f + i → i ≤ L + 6 → Inv s → ∃ c', lL_law_23 N xs L f 0 419 453 (nI i) (mk s) = some (.inl 1, c') := by
  intro f
  induction f with
  | zero => intro i s h1 h2; omega
  | succ f ih =>
    intro i s hf hi hI
    show ∃ c', bL_law_23 N xs L (lL_law_23 N xs L f) 0 419 453 (nI i) (mk s) = _
    unfold bL_law_23
    rw [ob_s]
    by_cases c : Int32.ofNat L - 6 < nI i
    · rw [if_pos c, rZ_1]
      exact ⟨_, rfl⟩
    · have hiL := law_end c hL hi
      rw [if_neg c, sc_v hL (show i < L by omega), ob_s]
      by_cases h0 : xs i &&& (63 : Int32) = (0 : Int32)
      · rw [if_pos h0]
        obtain ⟨s', a1, a2⟩ := cs_204 (xs := xs) hN2 hL hiL hI
        rw [a2]
        exact ih (i + 6) s' (by omega) (by omega) a1
      rw [if_neg h0]
      by_cases h1 : xs i &&& (63 : Int32) = (1 : Int32)
      · rw [if_pos h1]
        obtain ⟨s', a1, a2⟩ := cs_277 (xs := xs) hN2 hL hiL hI
        rw [a2]
        exact ih (i + 6) s' (by omega) (by omega) a1
      rw [if_neg h1]
      by_cases h2 : xs i &&& (63 : Int32) = (2 : Int32)
      · rw [if_pos h2]
        obtain ⟨s', a1, a2⟩ := cs_333 (xs := xs) hN2 hL hiL hI
        rw [a2]
        exact ih (i + 6) s' (by omega) (by omega) a1
      rw [if_neg h2]
      by_cases h3 : xs i &&& (63 : Int32) = (3 : Int32)
      · rw [if_pos h3]
        obtain ⟨s', a1, a2⟩ := cs_346 (xs := xs) hN2 hL hiL hI
        rw [a2]
        exact ih (i + 6) s' (by omega) (by omega) a1
      rw [if_neg h3]
      by_cases h4 : xs i &&& (63 : Int32) = (4 : Int32)
      · rw [if_pos h4]
        obtain ⟨s', a1, a2⟩ := cs_402 (xs := xs) hN2 hL hiL hI
        rw [a2]
        exact ih (i + 6) s' (by omega) (by omega) a1
      rw [if_neg h4]
      by_cases h5 : xs i &&& (63 : Int32) = (5 : Int32)
      · rw [if_pos h5]
        obtain ⟨s', a1, a2⟩ := cs_470 (xs := xs) hN2 hL hiL hI
        rw [a2]
        exact ih (i + 6) s' (by omega) (by omega) a1
      rw [if_neg h5]
      by_cases h6 : xs i &&& (63 : Int32) = (6 : Int32)
      · rw [if_pos h6]
        obtain ⟨s', a1, a2⟩ := cs_538 (xs := xs) hN2 hL hiL hI
        rw [a2]
        exact ih (i + 6) s' (by omega) (by omega) a1
      rw [if_neg h6]
      by_cases h7 : xs i &&& (63 : Int32) = (7 : Int32)
      · rw [if_pos h7]
        obtain ⟨s', a1, a2⟩ := cs_606 (xs := xs) hN2 hL hiL hI
        rw [a2]
        exact ih (i + 6) s' (by omega) (by omega) a1
      rw [if_neg h7]
      by_cases h8 : xs i &&& (63 : Int32) = (8 : Int32)
      · rw [if_pos h8]
        obtain ⟨s', a1, a2⟩ := cs_662 (xs := xs) hN2 hL hiL hI
        rw [a2]
        exact ih (i + 6) s' (by omega) (by omega) a1
      rw [if_neg h8]
      by_cases h9 : xs i &&& (63 : Int32) = (9 : Int32)
      · rw [if_pos h9]
        obtain ⟨s', a1, a2⟩ := cs_718 (xs := xs) hN2 hL hiL hI
        rw [a2]
        exact ih (i + 6) s' (by omega) (by omega) a1
      rw [if_neg h9]
      by_cases h10 : xs i &&& (63 : Int32) = (10 : Int32)
      · rw [if_pos h10]
        obtain ⟨s', a1, a2⟩ := cs_774 (xs := xs) hN2 hL hiL hI
        rw [a2]
        exact ih (i + 6) s' (by omega) (by omega) a1
      rw [if_neg h10]
      by_cases h11 : xs i &&& (63 : Int32) = (11 : Int32)
      · rw [if_pos h11]
        obtain ⟨s', a1, a2⟩ := cs_799 (xs := xs) hN2 hL hiL hI
        rw [a2]
        exact ih (i + 6) s' (by omega) (by omega) a1
      rw [if_neg h11]
      by_cases h12 : xs i &&& (63 : Int32) = (12 : Int32)
      · rw [if_pos h12]
        obtain ⟨s', a1, a2⟩ := cs_840 (xs := xs) hN2 hL hiL hI
        rw [a2]
        exact ih (i + 6) s' (by omega) (by omega) a1
      rw [if_neg h12]
      by_cases h13 : xs i &&& (63 : Int32) = (13 : Int32)
      · rw [if_pos h13]
        obtain ⟨s', a1, a2⟩ := cs_931 (xs := xs) hN2 hL hiL hI
        rw [a2]
        exact ih (i + 6) s' (by omega) (by omega) a1
      rw [if_neg h13]
      by_cases h14 : xs i &&& (63 : Int32) = (14 : Int32)
      · rw [if_pos h14]
        obtain ⟨s', a1, a2⟩ := cs_996 (xs := xs) hN2 hL hiL hI
        rw [a2]
        exact ih (i + 6) s' (by omega) (by omega) a1
      rw [if_neg h14]
      by_cases h15 : xs i &&& (63 : Int32) = (15 : Int32)
      · rw [if_pos h15]
        obtain ⟨s', a1, a2⟩ := cs_1009 (xs := xs) hN2 hL hiL hI
        rw [a2]
        exact ih (i + 6) s' (by omega) (by omega) a1
      rw [if_neg h15]
      by_cases h16 : xs i &&& (63 : Int32) = (16 : Int32)
      · rw [if_pos h16]
        obtain ⟨s', a1, a2⟩ := cs_1077 (xs := xs) hN2 hL hiL hI
        rw [a2]
        exact ih (i + 6) s' (by omega) (by omega) a1
      rw [if_neg h16]
      by_cases h17 : xs i &&& (63 : Int32) = (17 : Int32)
      · rw [if_pos h17]
        obtain ⟨s', a1, a2⟩ := cs_1090 (xs := xs) hN2 hL hiL hI
        rw [a2]
        exact ih (i + 6) s' (by omega) (by omega) a1
      rw [if_neg h17]
      by_cases h18 : xs i &&& (63 : Int32) = (18 : Int32)
      · rw [if_pos h18]
        obtain ⟨s', a1, a2⟩ := cs_1146 (xs := xs) hN2 hL hiL hI
        rw [a2]
        exact ih (i + 6) s' (by omega) (by omega) a1
      rw [if_neg h18]
      by_cases h19 : xs i &&& (63 : Int32) = (19 : Int32)
      · rw [if_pos h19]
        obtain ⟨s', a1, a2⟩ := cs_1202 (xs := xs) hN2 hL hiL hI
        rw [a2]
        exact ih (i + 6) s' (by omega) (by omega) a1
      rw [if_neg h19]
      by_cases h20 : xs i &&& (63 : Int32) = (20 : Int32)
      · rw [if_pos h20]
        obtain ⟨s', a1, a2⟩ := cs_1258 (xs := xs) hN2 hL hiL hI
        rw [a2]
        exact ih (i + 6) s' (by omega) (by omega) a1
      rw [if_neg h20]
      by_cases h21 : xs i &&& (63 : Int32) = (21 : Int32)
      · rw [if_pos h21]
        obtain ⟨s', a1, a2⟩ := cs_1271 (xs := xs) hN2 hL hiL hI
        rw [a2]
        exact ih (i + 6) s' (by omega) (by omega) a1
      rw [if_neg h21]
      by_cases h22 : xs i &&& (63 : Int32) = (22 : Int32)
      · rw [if_pos h22]
        obtain ⟨s', a1, a2⟩ := cs_1327 (xs := xs) hN2 hL hiL hI
        rw [a2]
        exact ih (i + 6) s' (by omega) (by omega) a1
      rw [if_neg h22]
      by_cases h23 : xs i &&& (63 : Int32) = (23 : Int32)
      · rw [if_pos h23]
        obtain ⟨s', a1, a2⟩ := cs_1395 (xs := xs) hN2 hL hiL hI
        rw [a2]
        exact ih (i + 6) s' (by omega) (by omega) a1
      rw [if_neg h23]
      by_cases h24 : xs i &&& (63 : Int32) = (24 : Int32)
      · rw [if_pos h24]
        obtain ⟨s', a1, a2⟩ := cs_1451 (xs := xs) hN2 hL hiL hI
        rw [a2]
        exact ih (i + 6) s' (by omega) (by omega) a1
      rw [if_neg h24]
      by_cases h25 : xs i &&& (63 : Int32) = (25 : Int32)
      · rw [if_pos h25]
        obtain ⟨s', a1, a2⟩ := cs_1507 (xs := xs) hN2 hL hiL hI
        rw [a2]
        exact ih (i + 6) s' (by omega) (by omega) a1
      rw [if_neg h25]
      by_cases h26 : xs i &&& (63 : Int32) = (26 : Int32)
      · rw [if_pos h26]
        obtain ⟨s', a1, a2⟩ := cs_1575 (xs := xs) hN2 hL hiL hI
        rw [a2]
        exact ih (i + 6) s' (by omega) (by omega) a1
      rw [if_neg h26]
      by_cases h27 : xs i &&& (63 : Int32) = (27 : Int32)
      · rw [if_pos h27]
        obtain ⟨s', a1, a2⟩ := cs_1588 (xs := xs) hN2 hL hiL hI
        rw [a2]
        exact ih (i + 6) s' (by omega) (by omega) a1
      rw [if_neg h27]
      by_cases h28 : xs i &&& (63 : Int32) = (28 : Int32)
      · rw [if_pos h28]
        obtain ⟨s', a1, a2⟩ := cs_1644 (xs := xs) hN2 hL hiL hI
        rw [a2]
        exact ih (i + 6) s' (by omega) (by omega) a1
      rw [if_neg h28]
      by_cases h29 : xs i &&& (63 : Int32) = (29 : Int32)
      · rw [if_pos h29]
        obtain ⟨s', a1, a2⟩ := cs_1700 (xs := xs) hN2 hL hiL hI
        rw [a2]
        exact ih (i + 6) s' (by omega) (by omega) a1
      rw [if_neg h29]
      by_cases h30 : xs i &&& (63 : Int32) = (30 : Int32)
      · rw [if_pos h30]
        obtain ⟨s', a1, a2⟩ := cs_1779 (xs := xs) hN2 hL hiL hI
        rw [a2]
        exact ih (i + 6) s' (by omega) (by omega) a1
      rw [if_neg h30]
      by_cases h31 : xs i &&& (63 : Int32) = (31 : Int32)
      · rw [if_pos h31]
        obtain ⟨s', a1, a2⟩ := cs_1870 (xs := xs) hN2 hL hiL hI
        rw [a2]
        exact ih (i + 6) s' (by omega) (by omega) a1
      rw [if_neg h31]
      by_cases h32 : xs i &&& (63 : Int32) = (32 : Int32)
      · rw [if_pos h32]
        obtain ⟨s', a1, a2⟩ := cs_1966 (xs := xs) hN2 hL hiL hI
        rw [a2]
        exact ih (i + 6) s' (by omega) (by omega) a1
      rw [if_neg h32]
      by_cases h33 : xs i &&& (63 : Int32) = (33 : Int32)
      · rw [if_pos h33]
        obtain ⟨s', a1, a2⟩ := cs_1979 (xs := xs) hN2 hL hiL hI
        rw [a2]
        exact ih (i + 6) s' (by omega) (by omega) a1
      rw [if_neg h33]
      by_cases h34 : xs i &&& (63 : Int32) = (34 : Int32)
      · rw [if_pos h34]
        obtain ⟨s', a1, a2⟩ := cs_1990 (xs := xs) hN2 hL hiL hI
        rw [a2]
        exact ih (i + 6) s' (by omega) (by omega) a1
      rw [if_neg h34]
      by_cases h35 : xs i &&& (63 : Int32) = (35 : Int32)
      · rw [if_pos h35]
        obtain ⟨s', a1, a2⟩ := cs_2082 (xs := xs) hN2 hL hiL hI
        rw [a2]
        exact ih (i + 6) s' (by omega) (by omega) a1
      rw [if_neg h35]
      by_cases h36 : xs i &&& (63 : Int32) = (36 : Int32)
      · rw [if_pos h36]
        obtain ⟨s', a1, a2⟩ := cs_2093 (xs := xs) hN2 hL hiL hI
        rw [a2]
        exact ih (i + 6) s' (by omega) (by omega) a1
      rw [if_neg h36]
      rw [sc_6]
      exact ih (i + 6) s (by omega) (by omega) hI
end LAW
theorem pure_law (xs : Nat → Int32) (L : Nat) (hL : L ≤ 3072) : ∃ N c', fLaw N xs L = some (.inl 1, c') := by
  obtain ⟨c', h⟩ := law_loop (N := 3000) (xs := xs) (L := L) (by omega) hL 600 0 s00 (by omega) (by omega) Inv_00
  refine ⟨3000, c', ?_⟩
  rw [fLaw_mk]
  exact h
