/-! State: now, place, had, film, waited, lamps, silk, the tries, the sky's words -/
theorem sk_i_nar (c : Bool) : narrow .boolean (.int (sk_i c)) = .int (sk_i c) := by cases c <;> rfl
theorem sk_i_fit (c : Bool) : fits .boolean (.int (sk_i c)) = true := by cases c <;> rfl
abbrev aS : Type := Int32 × Int32 × Int32 × Int32 × Int32 × Bool × Bool × List Int32 × List Int32
def cS0 (o : Nat) (s : aS) : mm_E := .inr (9, [.int s.1, .int s.2.1, .int s.2.2.1, .int s.2.2.2.1, .int s.2.2.2.2.1, .int (sk_i s.2.2.2.2.2.1), .int (sk_i s.2.2.2.2.2.2.1), .ref (o + 1), .ref (o + 2)])
/-- the cells of a State at o: itself, its tries, its Sky, the Sky's words -/
def cS (o : Nat) (s : aS) : List (Nat × mm_E) := [(o, cS0 o s), (o + 1, .inl (.int, la s.2.2.2.2.2.2.2.1)), (o + 2, .inr (8, [.ref (o + 3)])), (o + 3, .inl (.int, la s.2.2.2.2.2.2.2.2))]
def okS (s : aS) : Prop := s.2.2.2.2.2.2.2.1.length = 8 ∧ s.2.2.2.2.2.2.2.2.length = 15
theorem cS_ne {o k : Nat} {s : aS} (hk : k < o ∨ o + 4 ≤ k) : ∀ q ∈ cS o s, q.1 ≠ k := by
  intro q hq
  simp only [cS, List.mem_cons, List.not_mem_nil, or_false] at hq
  rcases hq with rfl | rfl | rfl | rfl <;> simp <;> omega
theorem cS_at {h : mm_H} {o : Nat} {s : aS} (hs : has h (cS o s)) : h.2 o = some (cS0 o s) ∧ h.2 (o + 1) = some (.inl (.int, la s.2.2.2.2.2.2.2.1)) ∧ h.2 (o + 2) = some (.inr (8, [.ref (o + 3)])) ∧ h.2 (o + 3) = some (.inl (.int, la s.2.2.2.2.2.2.2.2)) :=
  ⟨hs (o, cS0 o s) (by simp [cS]), hs (o + 1, _) (by simp [cS]), hs (o + 2, _) (by simp [cS]), hs (o + 3, _) (by simp [cS])⟩
/-- another heap whose four cells are those of s' -/
theorem cS_eq {h h' : mm_H} {o : Nat} {s' : aS} (h1 : h'.1 = h.1) (h3 : ∀ k, (k < o ∨ o + 4 ≤ k) → h'.2 k = h.2 k) (a0 : h'.2 o = some (cS0 o s')) (a1 : h'.2 (o + 1) = some (.inl (.int, la s'.2.2.2.2.2.2.2.1))) (a2 : h'.2 (o + 2) = some (.inr (8, [.ref (o + 3)]))) (a3 : h'.2 (o + 3) = some (.inl (.int, la s'.2.2.2.2.2.2.2.2))) : h' = ups h (cS o s') := by
  refine ups_eq h1 (fun q hq => ?_) (fun k hk => h3 k ?_)
  · simp only [cS, List.mem_cons, List.not_mem_nil, or_false] at hq
    rcases hq with rfl | rfl | rfl | rfl
    · exact a0
    · exact a1
    · exact a2
    · exact a3
  · have k0 := hk (o, cS0 o s') (by simp [cS])
    have k1 := hk (o + 1, .inl (.int, la s'.2.2.2.2.2.2.2.1)) (by simp [cS])
    have k2 := hk (o + 2, .inr (8, [.ref (o + 3)])) (by simp [cS])
    have k3 := hk (o + 3, .inl (.int, la s'.2.2.2.2.2.2.2.2)) (by simp [cS])
    simp only [ne_eq] at k0 k1 k2 k3
    omega
/-- bit k of a number, as the classes ask it -/
def hb (v k : Int32) : Bool := decide ((v >>> (k &&& 31)) &&& 1 = 1)
set_option maxRecDepth 100000 in
theorem vX9_isHad (Z : mm_Z) (h : mm_H) (o : Nat) (s : aS) (k : Int32) (hs : has h (cS o s)) :
    mC Z qX9_isHad 0 0 0 [.ref o, .int k] h (fun r h' => r = .inl (some (.int (sk_i (hb s.2.2.1 k)))) ∧ h' = h) := by
  refine mC_of gX9_isHad (by decide +kernel) (Nat.le_of_ble_eq_true rfl) fun X C hRm => ?_
  obtain ⟨a0, a1, a2, a3⟩ := cS_at hs
  unfold cS0 at a0
  refine mg_aload_n C rfl rfl ?_
  refine mg_getfield C rfl rfl rfl (by decide) (by (repeat rw [mm_up_ne _ _ (by omega)]); first | assumption | exact mm_up_at _ _ _) rfl ?_
  refine mg_iload_n C rfl rfl ?_
  refine mg_ishr C rfl ?_
  refine mg_iconst (v := 1) C rfl (by decide) ?_
  refine mg_iand C rfl ?_
  refine mg_iconst (v := 1) C rfl (by decide) ?_
  refine mg_icmp_ne C rfl (fun c_9 => ?_) (fun c_9 => ?_)
  · refine mg_iconst (v := 0) C rfl (by decide) ?_
    exact mg_zreturn C rfl (by decide) (by decide) rfl (by first | rfl | decide) (⟨by rw [hb, decide_eq_false c_9]; rfl, rfl⟩)
  · refine mg_iconst (v := 1) C rfl (by decide) ?_
    refine mg_goto C rfl ?_
    exact mg_zreturn C rfl (by decide) (by decide) rfl (by first | rfl | decide) (⟨by rw [hb, decide_eq_true c_9]; rfl, rfl⟩)
set_option maxRecDepth 100000 in
theorem vX9_waits (Z : mm_Z) (h : mm_H) (o : Nat) (s : aS) (k : Int32) (hs : has h (cS o s)) :
    mC Z qX9_waits 0 0 0 [.ref o, .int k] h (fun r h' => r = .inl none ∧ h' = ups h (cS o (s.1 + k, s.2.1, s.2.2.1, s.2.2.2.1, s.2.2.2.2.1 + k, s.2.2.2.2.2))) := by
  refine mC_of gX9_waits (by decide +kernel) (Nat.le_of_ble_eq_true rfl) fun X C hRm => ?_
  obtain ⟨a0, a1, a2, a3⟩ := cS_at hs
  unfold cS0 at a0
  refine mg_aload_n C rfl rfl ?_
  refine mg_dup C rfl rfl ?_
  refine mg_getfield C rfl rfl rfl (by decide) (by (repeat rw [mm_up_ne _ _ (by omega)]); first | assumption | exact mm_up_at _ _ _) rfl ?_
  refine mg_iload_n C rfl rfl ?_
  refine mg_iadd C rfl ?_
  refine mg_putfield C rfl rfl rfl (by decide) rfl (by (repeat rw [mm_up_ne _ _ (by omega)]); first | assumption | exact mm_up_at _ _ _) (Nat.le_of_ble_eq_true rfl) rfl rfl ?_
  try rw [mm_up_up]
  refine mg_aload_n C rfl rfl ?_
  refine mg_dup C rfl rfl ?_
  refine mg_getfield C rfl rfl rfl (by decide) (by (repeat rw [mm_up_ne _ _ (by omega)]); first | assumption | exact mm_up_at _ _ _) rfl ?_
  refine mg_iload_n C rfl rfl ?_
  refine mg_iadd C rfl ?_
  refine mg_putfield C rfl rfl rfl (by decide) rfl (by (repeat rw [mm_up_ne _ _ (by omega)]); first | assumption | exact mm_up_at _ _ _) (Nat.le_of_ble_eq_true rfl) rfl rfl ?_
  try rw [mm_up_up]
  exact mg_return C rfl (by decide) (by decide) rfl (⟨rfl, cS_eq rfl (fun q hq => by simp [mm_up, show q ≠ o by omega]) (by simp [mm_up, cS0]) (by simp [mm_up, a1]) (by simp [mm_up, a2]) (by simp [mm_up, a3])⟩)
set_option maxRecDepth 100000 in
theorem vX9_goesOver (Z : mm_Z) (h : mm_H) (o : Nat) (s : aS) (k : Int32) (hs : has h (cS o s)) :
    mC Z qX9_goesOver 0 0 0 [.ref o, .int k] h (fun r h' => r = .inl none ∧ h' = ups h (cS o (s.1 + k, (if s.2.1 = 0 then 1 else 0), s.2.2.1, s.2.2.2.1, 0, s.2.2.2.2.2))) := by
  refine mC_of gX9_goesOver (by decide +kernel) (Nat.le_of_ble_eq_true rfl) fun X C hRm => ?_
  obtain ⟨a0, a1, a2, a3⟩ := cS_at hs
  unfold cS0 at a0
  refine mg_aload_n C rfl rfl ?_
  refine mg_aload_n C rfl rfl ?_
  refine mg_getfield C rfl rfl rfl (by decide) (by (repeat rw [mm_up_ne _ _ (by omega)]); first | assumption | exact mm_up_at _ _ _) rfl ?_
  refine mg_if_ne C rfl (fun c_5 => ?_) (fun c_5 => ?_)
  · refine mg_iconst (v := 0) C rfl (by decide) ?_
    refine mg_putfield C rfl rfl rfl (by decide) rfl (by (repeat rw [mm_up_ne _ _ (by omega)]); first | assumption | exact mm_up_at _ _ _) (Nat.le_of_ble_eq_true rfl) rfl rfl ?_
    try rw [mm_up_up]
    refine mg_aload_n C rfl rfl ?_
    refine mg_dup C rfl rfl ?_
    refine mg_getfield C rfl rfl rfl (by decide) (by (repeat rw [mm_up_ne _ _ (by omega)]); first | assumption | exact mm_up_at _ _ _) rfl ?_
    refine mg_iload_n C rfl rfl ?_
    refine mg_iadd C rfl ?_
    refine mg_putfield C rfl rfl rfl (by decide) rfl (by (repeat rw [mm_up_ne _ _ (by omega)]); first | assumption | exact mm_up_at _ _ _) (Nat.le_of_ble_eq_true rfl) rfl rfl ?_
    try rw [mm_up_up]
    refine mg_aload_n C rfl rfl ?_
    refine mg_iconst (v := 0) C rfl (by decide) ?_
    refine mg_putfield C rfl rfl rfl (by decide) rfl (by (repeat rw [mm_up_ne _ _ (by omega)]); first | assumption | exact mm_up_at _ _ _) (Nat.le_of_ble_eq_true rfl) rfl rfl ?_
    try rw [mm_up_up]
    exact mg_return C rfl (by decide) (by decide) rfl (⟨rfl, cS_eq rfl (fun q hq => by simp [mm_up, show q ≠ o by omega]) (by simp [mm_up, cS0, c_5]) (by simp [mm_up, a1]) (by simp [mm_up, a2]) (by simp [mm_up, a3])⟩)
  · refine mg_iconst (v := 1) C rfl (by decide) ?_
    refine mg_goto C rfl ?_
    refine mg_putfield C rfl rfl rfl (by decide) rfl (by (repeat rw [mm_up_ne _ _ (by omega)]); first | assumption | exact mm_up_at _ _ _) (Nat.le_of_ble_eq_true rfl) rfl rfl ?_
    try rw [mm_up_up]
    refine mg_aload_n C rfl rfl ?_
    refine mg_dup C rfl rfl ?_
    refine mg_getfield C rfl rfl rfl (by decide) (by (repeat rw [mm_up_ne _ _ (by omega)]); first | assumption | exact mm_up_at _ _ _) rfl ?_
    refine mg_iload_n C rfl rfl ?_
    refine mg_iadd C rfl ?_
    refine mg_putfield C rfl rfl rfl (by decide) rfl (by (repeat rw [mm_up_ne _ _ (by omega)]); first | assumption | exact mm_up_at _ _ _) (Nat.le_of_ble_eq_true rfl) rfl rfl ?_
    try rw [mm_up_up]
    refine mg_aload_n C rfl rfl ?_
    refine mg_iconst (v := 0) C rfl (by decide) ?_
    refine mg_putfield C rfl rfl rfl (by decide) rfl (by (repeat rw [mm_up_ne _ _ (by omega)]); first | assumption | exact mm_up_at _ _ _) (Nat.le_of_ble_eq_true rfl) rfl rfl ?_
    try rw [mm_up_up]
    exact mg_return C rfl (by decide) (by decide) rfl (⟨rfl, cS_eq rfl (fun q hq => by simp [mm_up, show q ≠ o by omega]) (by simp [mm_up, cS0, c_5]) (by simp [mm_up, a1]) (by simp [mm_up, a2]) (by simp [mm_up, a3])⟩)
set_option maxRecDepth 100000 in
theorem vX9_putOn (Z : mm_Z) (h : mm_H) (o : Nat) (s : aS) (k : Int32) (c : Bool) (hs : has h (cS o s)) :
    mC Z qX9_putOn 0 0 0 [.ref o, .int k, .int (sk_i c)] h (fun r h' => r = .inl none ∧ h' = ups h (cS o (if k = 0 then (s.1, s.2.1, s.2.2.1, s.2.2.2.1, s.2.2.2.2.1, c, s.2.2.2.2.2.2) else (s.1, s.2.1, s.2.2.1, s.2.2.2.1, s.2.2.2.2.1, s.2.2.2.2.2.1, c, s.2.2.2.2.2.2.2)))) := by
  refine mC_of gX9_putOn (by decide +kernel) (Nat.le_of_ble_eq_true rfl) fun X C hRm => ?_
  obtain ⟨a0, a1, a2, a3⟩ := cS_at hs
  unfold cS0 at a0
  refine mg_iload_n C rfl rfl ?_
  refine mg_if_ne C rfl (fun c_1 => ?_) (fun c_1 => ?_)
  · refine mg_aload_n C rfl rfl ?_
    refine mg_iload_n C rfl rfl ?_
    refine mg_putfield C rfl rfl rfl (by decide) rfl (by (repeat rw [mm_up_ne _ _ (by omega)]); first | assumption | exact mm_up_at _ _ _) (Nat.le_of_ble_eq_true rfl) (by first | rfl | exact sk_i_nar _) (by first | rfl | exact sk_i_fit _) ?_
    try rw [mm_up_up]
    rw [if_neg c_1]
    exact mg_return C rfl (by decide) (by decide) rfl (⟨rfl, cS_eq rfl (fun q hq => by simp [mm_up, show q ≠ o by omega]) (by simp [mm_up, cS0]) (by simp [mm_up, a1]) (by simp [mm_up, a2]) (by simp [mm_up, a3])⟩)
  · refine mg_aload_n C rfl rfl ?_
    refine mg_iload_n C rfl rfl ?_
    refine mg_putfield C rfl rfl rfl (by decide) rfl (by (repeat rw [mm_up_ne _ _ (by omega)]); first | assumption | exact mm_up_at _ _ _) (Nat.le_of_ble_eq_true rfl) (by first | rfl | exact sk_i_nar _) (by first | rfl | exact sk_i_fit _) ?_
    try rw [mm_up_up]
    refine mg_goto C rfl ?_
    rw [if_pos c_1]
    exact mg_return C rfl (by decide) (by decide) rfl (⟨rfl, cS_eq rfl (fun q hq => by simp [mm_up, show q ≠ o by omega]) (by simp [mm_up, cS0]) (by simp [mm_up, a1]) (by simp [mm_up, a2]) (by simp [mm_up, a3])⟩)
set_option maxRecDepth 100000 in
/-- a Sky at o (its words at o + 1) copies the one at p -/
theorem vX8_copyFrom (Z : mm_Z) (h : mm_H) (o p : Nat) (l m : List Int32) (ho : h.2 o = some (.inr (8, [.ref (o + 1)]))) (hl : h.2 (o + 1) = some (.inl (.int, la l))) (hp : h.2 p = some (.inr (8, [.ref (p + 1)]))) (hm : h.2 (p + 1) = some (.inl (.int, la m))) (l15 : l.length = 15) (m15 : m.length = 15) :
    mC Z qX8_copyFrom 1 0 0 [.ref o, .ref p] h (fun r h' => r = .inl none ∧ h' = mm_up h (o + 1) (.inl (.int, la m))) := by
  refine mC_of gX8_copyFrom (by decide +kernel) (Nat.le_of_ble_eq_true rfl) fun X C hRm => ?_
  refine mg_aload_n C rfl rfl ?_
  refine mg_getfield C rfl rfl rfl (by decide) (by (repeat rw [mm_up_ne _ _ (by omega)]); first | assumption | exact mm_up_at _ _ _) rfl ?_
  refine mg_iconst (v := 0) C rfl (by decide) ?_
  refine mg_aload_n C rfl rfl ?_
  refine mg_getfield C rfl rfl rfl (by decide) (by (repeat rw [mm_up_ne _ _ (by omega)]); first | assumption | exact mm_up_at _ _ _) rfl ?_
  refine mg_iconst (v := 0) C rfl (by decide) ?_
  refine mg_bipush (v := 15) C rfl (by decide) ?_
  refine mg_copyL (m := 15) C rfl rfl rfl (by decide) m15 l15 hm hl hRm (by decide) (by decide) ?_
  exact mg_return C rfl (by decide) (by decide) rfl (⟨rfl, rfl⟩)
set_option maxRecDepth 100000 in
theorem vX9_copyFrom (Z : mm_Z) (h : mm_H) (o p : Nat) (s t : aS) (hs : has h (cS o s)) (ht : has h (cS p t)) (ks : okS s) (kt : okS t) (hop : o + 4 ≤ p ∨ p + 4 ≤ o) :
    mC Z qX9_copyFrom 2 0 0 [.ref o, .ref p] h (fun r h' => r = .inl none ∧ h' = ups h (cS o t)) := by
  refine mC_of gX9_copyFrom (by decide +kernel) (Nat.le_of_ble_eq_true rfl) fun X C hRm => ?_
  obtain ⟨a0, a1, a2, a3⟩ := cS_at hs
  obtain ⟨b0, b1, b2, b3⟩ := cS_at ht
  unfold cS0 at a0 b0
  refine mg_aload_n C rfl rfl ?_
  refine mg_aload_n C rfl rfl ?_
  refine mg_getfield C rfl rfl rfl (by decide) (by (repeat rw [mm_up_ne _ _ (by omega)]); first | assumption | exact mm_up_at _ _ _) rfl ?_
  refine mg_putfield C rfl rfl rfl (by decide) rfl (by (repeat rw [mm_up_ne _ _ (by omega)]); first | assumption | exact mm_up_at _ _ _) (Nat.le_of_ble_eq_true rfl) rfl rfl ?_
  try rw [mm_up_up]
  refine mg_aload_n C rfl rfl ?_
  refine mg_aload_n C rfl rfl ?_
  refine mg_getfield C rfl rfl rfl (by decide) (by (repeat rw [mm_up_ne _ _ (by omega)]); first | assumption | exact mm_up_at _ _ _) rfl ?_
  refine mg_putfield C rfl rfl rfl (by decide) rfl (by (repeat rw [mm_up_ne _ _ (by omega)]); first | assumption | exact mm_up_at _ _ _) (Nat.le_of_ble_eq_true rfl) rfl rfl ?_
  try rw [mm_up_up]
  refine mg_aload_n C rfl rfl ?_
  refine mg_aload_n C rfl rfl ?_
  refine mg_getfield C rfl rfl rfl (by decide) (by (repeat rw [mm_up_ne _ _ (by omega)]); first | assumption | exact mm_up_at _ _ _) rfl ?_
  refine mg_putfield C rfl rfl rfl (by decide) rfl (by (repeat rw [mm_up_ne _ _ (by omega)]); first | assumption | exact mm_up_at _ _ _) (Nat.le_of_ble_eq_true rfl) rfl rfl ?_
  try rw [mm_up_up]
  refine mg_aload_n C rfl rfl ?_
  refine mg_aload_n C rfl rfl ?_
  refine mg_getfield C rfl rfl rfl (by decide) (by (repeat rw [mm_up_ne _ _ (by omega)]); first | assumption | exact mm_up_at _ _ _) rfl ?_
  refine mg_putfield C rfl rfl rfl (by decide) rfl (by (repeat rw [mm_up_ne _ _ (by omega)]); first | assumption | exact mm_up_at _ _ _) (Nat.le_of_ble_eq_true rfl) rfl rfl ?_
  try rw [mm_up_up]
  refine mg_aload_n C rfl rfl ?_
  refine mg_aload_n C rfl rfl ?_
  refine mg_getfield C rfl rfl rfl (by decide) (by (repeat rw [mm_up_ne _ _ (by omega)]); first | assumption | exact mm_up_at _ _ _) rfl ?_
  refine mg_putfield C rfl rfl rfl (by decide) rfl (by (repeat rw [mm_up_ne _ _ (by omega)]); first | assumption | exact mm_up_at _ _ _) (Nat.le_of_ble_eq_true rfl) rfl rfl ?_
  try rw [mm_up_up]
  refine mg_aload_n C rfl rfl ?_
  refine mg_aload_n C rfl rfl ?_
  refine mg_getfield C rfl rfl rfl (by decide) (by (repeat rw [mm_up_ne _ _ (by omega)]); first | assumption | exact mm_up_at _ _ _) rfl ?_
  refine mg_putfield C rfl rfl rfl (by decide) rfl (by (repeat rw [mm_up_ne _ _ (by omega)]); first | assumption | exact mm_up_at _ _ _) (Nat.le_of_ble_eq_true rfl) (by first | rfl | exact sk_i_nar _) (by first | rfl | exact sk_i_fit _) ?_
  try rw [mm_up_up]
  refine mg_aload_n C rfl rfl ?_
  refine mg_aload_n C rfl rfl ?_
  refine mg_getfield C rfl rfl rfl (by decide) (by (repeat rw [mm_up_ne _ _ (by omega)]); first | assumption | exact mm_up_at _ _ _) rfl ?_
  refine mg_putfield C rfl rfl rfl (by decide) rfl (by (repeat rw [mm_up_ne _ _ (by omega)]); first | assumption | exact mm_up_at _ _ _) (Nat.le_of_ble_eq_true rfl) (by first | rfl | exact sk_i_nar _) (by first | rfl | exact sk_i_fit _) ?_
  try rw [mm_up_up]
  refine mg_aload_n C rfl rfl ?_
  refine mg_getfield C rfl rfl rfl (by decide) (by (repeat rw [mm_up_ne _ _ (by omega)]); first | assumption | exact mm_up_at _ _ _) rfl ?_
  refine mg_iconst (v := 0) C rfl (by decide) ?_
  refine mg_aload_n C rfl rfl ?_
  refine mg_getfield C rfl rfl rfl (by decide) (by (repeat rw [mm_up_ne _ _ (by omega)]); first | assumption | exact mm_up_at _ _ _) rfl ?_
  refine mg_iconst (v := 0) C rfl (by decide) ?_
  refine mg_bipush (v := 8) C rfl (by decide) ?_
  refine mg_copyL (m := 8) C rfl rfl rfl (by decide) kt.1 ks.1 (by (repeat rw [mm_up_ne _ _ (by omega)]); first | assumption | exact mm_up_at _ _ _) (by (repeat rw [mm_up_ne _ _ (by omega)]); first | assumption | exact mm_up_at _ _ _) hRm (by decide) (by decide) ?_
  refine mg_aload_n C rfl rfl ?_
  refine mg_getfield C rfl rfl rfl (by decide) (by (repeat rw [mm_up_ne _ _ (by omega)]); first | assumption | exact mm_up_at _ _ _) rfl ?_
  refine mg_aload_n C rfl rfl ?_
  refine mg_getfield C rfl rfl rfl (by decide) (by (repeat rw [mm_up_ne _ _ (by omega)]); first | assumption | exact mm_up_at _ _ _) rfl ?_
  refine mg_invokevirtual (M' := qX8_copyFrom) C rfl rfl aX8_copyFrom iX8_copyFrom sX8_copyFrom hRm (by decide) (by decide) (by decide) (by decide) (vX8_copyFrom Z _ (o + 2) (p + 2) s.2.2.2.2.2.2.2.2 t.2.2.2.2.2.2.2.2 (by (repeat rw [mm_up_ne _ _ (by omega)]); first | assumption | exact mm_up_at _ _ _) (by (repeat rw [mm_up_ne _ _ (by omega)]); first | assumption | exact mm_up_at _ _ _) (by (repeat rw [mm_up_ne _ _ (by omega)]); first | assumption | exact mm_up_at _ _ _) (by (repeat rw [mm_up_ne _ _ (by omega)]); first | assumption | exact mm_up_at _ _ _) ks.2 kt.2) rfl rfl (Nat.le_of_ble_eq_true rfl) (by (repeat rw [mm_up_ne _ _ (by omega)]); first | assumption | exact mm_up_at _ _ _) rfl (fun ci h' hq => absurd hq.1 (by simp)) (fun v_79 h_79 q_79 => ?_)
  obtain ⟨e_79, f_79⟩ := q_79
  cases e_79
  replace f_79 := f_79.symm
  subst f_79
  simp only [Option.toList_some, Option.toList_none, List.cons_append, List.nil_append, Nat.add_zero]
  exact mg_return C rfl (by decide) (by decide) rfl (⟨rfl, cS_eq rfl (fun q hq => by simp [mm_up, show q ≠ o by omega, show q ≠ o + 1 by omega, show q ≠ o + 3 by omega]) (by simp [mm_up, cS0] <;> omega) (by simp [mm_up] <;> omega) (by simp [mm_up, a2] <;> omega) (by simp [mm_up] <;> omega)⟩)
set_option maxRecDepth 100000 in
theorem vX9_begins_loop (Z : mm_Z) (h : mm_H) (o p : Nat) (X : mm_T) (l : List Int32) (Q : mm_O → mm_H → Prop) (C : mm_Ok Z qX9_begins X) (cell : mm_E) (fs : List Value) (hcell : cell = .inr (9, fs)) (hf : fs[7]? = some (.ref (o + 1))) (l8 : l.length = 8) (h1 : h.2 o = some cell)
    (kk : mG Z qX9_begins X 0 0 0 0 Q (56, [(0, .ref o), (1, .ref p), (2, .int 8)], [], mm_up h (o + 1) (.inl (.int, la (List.replicate 8 0))))) :
    ∀ (n i : Nat) (t : List Int32), i + n = 8 → t.length = 8 → (∀ j, j < i → t.getD j 0 = 0) → h.2 (o + 1) = some (.inl (.int, la l)) →
      mG Z qX9_begins X 0 0 0 0 Q (37, [(0, .ref o), (1, .ref p), (2, .int (nI i))], [], mm_up h (o + 1) (.inl (.int, la t))) := by
  intro n
  induction n with
  | zero =>
    intro i t hi t8 hz hl
    have e : t = List.replicate 8 0 := by
      apply List.ext_getElem (by rw [t8]; rfl)
      intro j h1 h2
      have := hz j (by omega)
      rw [List.getD_eq_getElem?_getD, List.getElem?_eq_getElem h1] at this
      rw [List.getElem_replicate]
      simpa using this
    subst e
    refine mg_iload_n C rfl rfl ?_
    refine mg_bipush (v := 8) C rfl (by decide) ?_
    refine mg_icmp_ge C rfl (fun c_40 => ?_) (fun c_40 => ?_)
    · rw [show i = 8 by omega]; exact kk
    · exact absurd (show (8 : Int32) ≤ nI i from nI_le (a := 8) (by omega) (by omega)) c_40
  | succ n ih =>
    intro i t hi t8 hz hl
    refine mg_iload_n C rfl rfl ?_
    refine mg_bipush (v := 8) C rfl (by decide) ?_
    refine mg_icmp_ge C rfl (fun c_40 => ?_) (fun c_40 => ?_)
    · exact absurd c_40 (show ¬ (8 : Int32) ≤ nI i from nI_ge (b := 8) (by omega) (by omega))
    · subst hcell
      refine mg_aload_n C rfl rfl ?_
      refine mg_getfield C rfl rfl rfl (by decide) (by (repeat rw [mm_up_ne _ _ (by omega)]); first | assumption | exact mm_up_at _ _ _) hf ?_
      refine mg_iload_n C rfl rfl ?_
      refine mg_iconst (v := 0) C rfl (by decide) ?_
      refine mg_iastoreL C rfl (mm_up_at _ _ _) (by omega) (by omega) ?_
      rw [mm_up_up]
      refine mg_iinc C rfl (Nat.le_of_ble_eq_true rfl) rfl (show _ + Int32.ofInt 1 = _ + 1 by congr 1) rfl ?_
      refine mg_goto C rfl ?_
      have e6 : nI i + 1 = nI (i + 1) := nI_1 i
      have h9 := ih (i + 1) (t.set i 0) (by omega) (by rw [List.length_set]; exact t8) (fun j hj => by
        rw [List.getD_eq_getElem?_getD, List.getElem?_set]
        by_cases hij : i = j
        · subst hij; simp [show i < t.length by omega]
        · rw [if_neg hij, ← List.getD_eq_getElem?_getD]; exact hz j (by omega)) hl
      rw [← e6] at h9
      exact h9
