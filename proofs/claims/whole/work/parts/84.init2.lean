/- needs: 83.init -/
/-! the contents as they are made are a memory -/
theorem mkE_sh {a : Nat} {k : Nat × Nat} {e : Option mm_E} {s : sg} (h : shE a k e = true) (hg : ∀ e', e = some e' → goodE e') (h1 : s.1 a = exI e) (h2 : s.2.1 a = exR e) (h3 : a = 453 → s.2.2 = exL e) : e = mkE s a k := by
  obtain ⟨ci, n⟩ := k
  match e, h, hg, h1, h2, h3 with
  | none, h, _, _, _, _ => cases h
  | some (.inr (c, vs)), h, hg, h1, h2, h3 =>
    have h' : (decide (ci < 13) && decide (c = ci) && shL ci a 0 vs (ftab.getD ci [])) = true := h
    rw [Bool.and_eq_true, Bool.and_eq_true] at h'
    have hc := of_decide_eq_true h'.1.1
    have hc2 := of_decide_eq_true h'.1.2
    have hv := shL_eq ci a c vs vs (ftab.getD ci []) 0 h'.2 (fun i => by rw [Nat.zero_add])
    unfold mkE
    rw [if_pos hc]
    show some (Sum.inr (c, vs)) = some (Sum.inr (ci, mkF s ci a))
    rw [hc2]
    congr 3
    unfold mkF rf
    rw [h1, h2]
    refine hv.trans ?_
    congr 1
    funext i b
    rw [Nat.zero_add]
  | some (.inl (ty, m, .inl f)), h, hg, h1, h2, h3 =>
    have h' : (decide (m = n) && (decide (ci = 20 ∧ ty = .int) || decide (ci = 21 ∧ ty = .byte) || decide (ci = 22 ∧ ty = .boolean))) = true := h
    rw [Bool.and_eq_true, Bool.or_eq_true, Bool.or_eq_true] at h'
    have hm := of_decide_eq_true h'.1
    have hf : s.1 a = f := h1
    rcases h'.2 with (q | q) | q
    · obtain ⟨rfl, rfl⟩ := of_decide_eq_true q
      show _ = some (Sum.inl (FieldType.int, n, Sum.inl (s.1 a)))
      rw [hf, hm]
    · obtain ⟨rfl, rfl⟩ := of_decide_eq_true q
      show _ = some (Sum.inl (FieldType.byte, n, Sum.inl (s.1 a)))
      rw [hf, hm]
    · obtain ⟨rfl, rfl⟩ := of_decide_eq_true q
      show _ = some (Sum.inl (FieldType.boolean, n, Sum.inl (s.1 a)))
      rw [hf, hm]
  | some (.inl (ty, m, .inr (.inl f))), h, hg, h1, h2, h3 =>
    have h' : (decide (m = n) && decide (ci = 23 ∧ ty = .long ∧ a = 453)) = true := h
    rw [Bool.and_eq_true] at h'
    have hm := of_decide_eq_true h'.1
    obtain ⟨rfl, rfl, ha⟩ := of_decide_eq_true h'.2
    have hf : s.2.2 = f := h3 ha
    show _ = some (Sum.inl (FieldType.long, n, Sum.inr (Sum.inl s.2.2)))
    rw [hf, hm]
  | some (.inl (ty, m, .inr (.inr (.inr (.inr f))))), h, hg, h1, h2, h3 =>
    have h' : (decide (m = n) && (decide (ci = 24 ∧ ty = .object "CloudTakes$Shot") || decide (ci = 25 ∧ ty = .object "CloudTakes$State") || decide (ci = 26 ∧ ty = .object "java/lang/String") || decide (ci = 27 ∧ ty = .array .int)) && shR a ci m f) = true := h
    rw [Bool.and_eq_true, Bool.and_eq_true, Bool.or_eq_true, Bool.or_eq_true, Bool.or_eq_true] at h'
    have hm := of_decide_eq_true h'.1.1
    have hn := hg _ rfl _ _ _ rfl
    have hr : ∀ j, j < m → f j = some ((imK ci a j).getD ((f j).getD 0)) := fun j hj => of_decide_eq_true (List.all_eq_true.mp h'.2 j (List.mem_range.mpr hj))
    have hf : f = fun j => if j < n then some (rf s ci a j) else none := by
      funext j
      by_cases c : j < n
      · rw [if_pos c]
        unfold rf
        rw [h2]
        exact hr j (by omega)
      · rw [if_neg c]
        exact hn j (by omega)
    rcases h'.1.2 with ((q | q) | q) | q
    · obtain ⟨rfl, rfl⟩ := of_decide_eq_true q
      show _ = some (Sum.inl (FieldType.object "CloudTakes$Shot", n, Sum.inr (Sum.inr (Sum.inr (Sum.inr fun j => if j < n then some (rf s 24 a j) else none)))))
      rw [hm, ← hf]
    · obtain ⟨rfl, rfl⟩ := of_decide_eq_true q
      show _ = some (Sum.inl (FieldType.object "CloudTakes$State", n, Sum.inr (Sum.inr (Sum.inr (Sum.inr fun j => if j < n then some (rf s 25 a j) else none)))))
      rw [hm, ← hf]
    · obtain ⟨rfl, rfl⟩ := of_decide_eq_true q
      show _ = some (Sum.inl (FieldType.object "java/lang/String", n, Sum.inr (Sum.inr (Sum.inr (Sum.inr fun j => if j < n then some (rf s 26 a j) else none)))))
      rw [hm, ← hf]
    · obtain ⟨rfl, rfl⟩ := of_decide_eq_true q
      show _ = some (Sum.inl (FieldType.array .int, n, Sum.inr (Sum.inr (Sum.inr (Sum.inr fun j => if j < n then some (rf s 27 a j) else none)))))
      rw [hm, ← hf]
theorem kd_hi {a : Nat} (h : 454 ≤ a) : kd a = (99, 0) := by
  unfold kd
  rw [if_neg (by omega)]
  have hl : layM.length = 35 := by decide +kernel
  rw [List.getD_eq_getElem?_getD, List.getElem?_eq_none (by omega)]
  rfl
theorem s00_1 (a : Nat) : s00.1 a = exI (C5 a) := by
  unfold s00
  rw [mkS_1]
theorem s00_2 (a : Nat) : s00.2.1 a = exR (C5 a) := by
  unfold s00
  rw [mkS_2]
theorem s00_3 : s00.2.2 = exL (C5 453) := by
  unfold s00
  rw [mkS_3]
theorem C5_mk : C5 = mk s00 := by
  funext a
  show C5 a = mkE s00 a (kd a)
  by_cases c : a < 454
  · exact mkE_sh (shp_all a c) (fun e' h => Pn_C5.2 a e' h) (s00_1 a) (s00_2 a) (fun h => by rw [h]; exact s00_3)
  · rw [kd_hi (by omega), Pn_C5.1 a (by omega)]
    rfl
theorem fLaw_mk (N : Nat) (xs : Nat → Int32) (L : Nat) : fLaw N xs L = lL_law_23 N xs L 600 0 419 453 0 (mk s00) := by
  have e : fLaw N xs L = Option.bind ini fun c5 => lL_law_23 N xs L 600 0 419 453 0 c5 := by
    unfold fLaw ini
    simp only [Option.bind_assoc]
  rw [e, ini_eq, ob_s, C5_mk]
/-! what stands there at the beginning -/
def v0I (a j : Nat) : Int32 := if a = 0 ∧ j = 2 then -1 else if a = 2 ∧ j = 0 then 240 else if a = 2 ∧ j = 1 then 50 else if a = 2 ∧ j = 2 then 1 else if a = 419 ∧ j = 25 then -1 else if a = 422 ∧ (j = 1 ∨ j = 9) then 240 else if a = 422 ∧ (j = 2 ∨ j = 10) then 50 else if a = 422 ∧ (j = 3 ∨ j = 11) then 1 else 0
/-- which cells are looked at -/
def lkA : List (Nat × List Nat) := [(0, [1, 2, 8]), (2, [0, 1, 2, 3]), (6, [0]), (37, [2, 6]), (38, [0, 1, 2, 3, 4, 5, 6]), (39, List.range 8), (41, List.range 15), (46, List.range 3), (419, [16, 25, 28, 29, 52]), (422, List.range 8), (433, List.range 3), (435, List.range 15)]
set_option maxRecDepth 100000 in
theorem v0_all : (lkA.all fun x => x.2.all fun j => decide (s00.1 x.1 j = v0I x.1 j)) = true := by decide +kernel
set_option maxRecDepth 100000 in
theorem v0_sky : ∀ m, m < 480 → s00.1 429 m = 0 := by decide +kernel
set_option maxRecDepth 100000 in
theorem v0_ref : s00.2.1 0 3 = 2 ∧ s00.2.1 0 4 = 18 ∧ (∀ i, i < 40 → s00.2.1 42 i = 47 + 4 * i) ∧ ∀ i, i < 40 → s00.2.1 212 i = 217 + 4 * i := by decide +kernel
theorem v0 {a j : Nat} (h : (lkA.any fun x => x.1 == a && x.2.any fun i => i == j) = true) : s00.1 a j = v0I a j := by
  obtain ⟨x, hx, h2⟩ := List.any_eq_true.mp h
  rw [Bool.and_eq_true] at h2
  obtain ⟨i, hi, h3⟩ := List.any_eq_true.mp h2.2
  have e1 : x.1 = a := eq_of_beq h2.1
  have e2 : i = j := eq_of_beq h3
  have := of_decide_eq_true (List.all_eq_true.mp (List.all_eq_true.mp v0_all x hx) i hi)
  rw [e1, e2] at this
  exact this
