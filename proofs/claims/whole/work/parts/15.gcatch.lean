/- needs: 15.acall 15.fun -/
section HX
variable {Z : mm_Z} {M M' : mm_M} {X : mm_T} {k w mc ms d n t tn kc : Nat} {Q : mm_O → mm_H → Prop} {pc npc a b : Nat} {wd : Cond} {lv : mm_V} {st rest as : List Value} {c : mm_C} {α β : Type} {ov : β → Option Value} {ov' : α → Option Value}
theorem hO_shift {T n' : Nat} {r : mR β} (h : hO T ov n r Q) (h1 : n ≤ n') (h2 : n' + t ≤ n + T) : hO t ov n' r Q := by
  obtain ⟨a, c', e, h3⟩ := h
  refine ⟨a, c', e, ?_⟩
  cases a with
  | inl v => exact fun m q1 q2 => h3 m (by omega) (by omega)
  | inr v => exact fun m q1 q2 => h3 m (by omega) (by omega)
/-- a call whose exceptions are caught by the caller -/
theorem mh_cX {idx o ci N m : Nat} {T : u_T} {x : mR α} {f : α → mm_C → mR β} {g : Nat → mm_C → mR β} (C : mm_Ok Z M X) (hc : mm_cd M pc = some (.invokevirtual idx, npc, a, b, wd)) (hw : wd = .methodLink M.1.cls idx M'.1) (hcal : mm_cal M' m) (hin : Cond.instanceMethod M'.1 ∈ mm_tbl) (hse : Cond.selects M'.1.cls M'.1 M'.1 ∈ mm_tbl)
    (hRm : mt_R X = mm_rm d mc ms) (hdd : 1 ≤ d) (hL : M'.2.2.1 ≤ 21) (hk : k + kc ≤ mc) (hw' : w + 6 * kc ≤ ms) (hcl : mm_cl[ci]? = some (M'.1.cls, T, N)) (hn : as.length = m) (hst : st = as.reverse ++ .ref o :: rest) (hrest : (rest.map fun v => v.category).sum ≤ 8)
    (hf : hO (t + tn + 1) ov n (cX ci o c x f g) Q) (call : x.isSome = true → mC Z M' (d - 1) kc (6 * kc) (.ref o :: as) (n, c) (mP tn ov' n x))
    (kk : ∀ v c' n', n ≤ n' → n' ≤ n + tn → hO t ov n' (f v c') Q → mG Z M X (k + kc) (w + 6 * kc) mc ms Q (npc, lv, (ov' v).toList ++ rest, (n', c')))
    (kx : ∀ e c' n', n ≤ n' → n' ≤ n + tn + 1 → hO t ov n' (g e c') Q → mX Z M X (k + kc) (w + 6 * kc) mc ms Q pc lv (n', c') e) : mG Z M X k w mc ms Q (pc, lv, st, (n, c)) := by
  unfold cX at hf
  split at hf
  case isFalse => exact absurd hf hO_none
  rename_i hi
  obtain ⟨fs, ho⟩ := isO_at hi
  cases x with
  | none => exact absurd hf hO_none
  | some p =>
    refine mg_invokevirtual C hc hw hcal hin hse hRm (by omega) hL hk hw' (call rfl) hn hst hrest ho hcl ?_ ?_
    · rintro e h' ⟨y, c', q1, q2, q3, q4⟩
      cases q1
      cases y with
      | inl v => cases q4.1
      | inr e' =>
        cases q4.1
        have := kx _ c' h'.1 q3 q4.2 (hO_shift hf q3 (by have := q4.2; omega))
        rw [← q2] at this
        exact this
    · rintro v h' ⟨y, c', q1, q2, q3, q4⟩
      cases q1
      cases y with
      | inl v' =>
        cases q4.1
        have := kk _ c' h'.1 q3 q4.2 (hO_shift hf q3 (by have := q4.2; omega))
        rw [← q2] at this
        exact this
      | inr e' => cases q4.1
/-- a call of a method that catches: it may have made a cell -/
theorem mh_c1 {idx o ci N m : Nat} {T : u_T} {x : mR α} {f : α → mm_C → mR β} (C : mm_Ok Z M X) (hc : mm_cd M pc = some (.invokevirtual idx, npc, a, b, wd)) (hw : wd = .methodLink M.1.cls idx M'.1) (hcal : mm_calW M' m) (hin : Cond.instanceMethod M'.1 ∈ mm_tbl) (hse : Cond.selects M'.1.cls M'.1 M'.1 ∈ mm_tbl)
    (hRm : mt_R X = mm_rm d mc ms) (hdd : 1 ≤ d) (hL : M'.2.2.1 ≤ 21) (hk : k + 1 ≤ mc) (hw' : w + 6 ≤ ms) (hcl : mm_cl[ci]? = some (M'.1.cls, T, N)) (hn : as.length = m) (hst : st = as.reverse ++ .ref o :: rest) (hrest : (rest.map fun v => v.category).sum ≤ 8) (hout : M.2.2.2.2.1.all (fun r => !(decide (r.1 ≤ pc) && decide (pc < r.2.1))) = true)
    (hf : hO (t + 1) ov n (cV ci o c x f) Q) (call : x.isSome = true → mC Z M' (d - 1) 1 6 (.ref o :: as) (n, c) (mP 1 ov' n x))
    (kk : ∀ v c' n', n ≤ n' → n' ≤ n + 1 → hO t ov n' (f v c') Q → mG Z M X (k + 1) (w + 6) mc ms Q (npc, lv, (ov' v).toList ++ rest, (n', c'))) : mG Z M X k w mc ms Q (pc, lv, st, (n, c)) := by
  unfold cV at hf
  split at hf
  case isFalse => exact absurd hf hO_none
  rename_i hi
  obtain ⟨fs, ho⟩ := isO_at hi
  obtain ⟨hs, h1, h2⟩ := cS_hO hf
  refine mg_virtualW C hc hw hcal hin hse hRm (by omega) hL hk hw' (call hs) hn hst hrest ho hcl ?_ ?_
  · rintro e h' ⟨y, c', q1, q2, q3, q4⟩
    cases y with
    | inl v => cases q4.1
    | inr e' =>
      cases q4.1
      refine mx_out C hout hk hw' ?_
      have := h2 _ _ q1 h'.1 q3 (by have := q4.2; omega)
      rw [← q2] at this
      exact this
  · rintro v h' ⟨y, c', q1, q2, q3, q4⟩
    cases y with
    | inl v' =>
      cases q4.1
      have := kk _ c' h'.1 q3 q4.2 (hO_shift (h1 _ _ q1) q3 (by have := q4.2; omega))
      rw [← q2] at this
      exact this
    | inr e' => cases q4.1
theorem mh_cXI {idx o ci N m : Nat} {T : u_T} {x : mR Int32} {f : Int32 → mm_C → mR β} {g : Nat → mm_C → mR β} (C : mm_Ok Z M X) (hc : mm_cd M pc = some (.invokevirtual idx, npc, a, b, wd)) (hw : wd = .methodLink M.1.cls idx M'.1) (hcal : mm_cal M' m) (hin : Cond.instanceMethod M'.1 ∈ mm_tbl) (hse : Cond.selects M'.1.cls M'.1 M'.1 ∈ mm_tbl)
    (hRm : mt_R X = mm_rm d mc ms) (hdd : 1 ≤ d) (hL : M'.2.2.1 ≤ 21) (hk : k + kc ≤ mc) (hw' : w + 6 * kc ≤ ms) (hcl : mm_cl[ci]? = some (M'.1.cls, T, N)) (hn : as.length = m) (hst : st = as.reverse ++ .ref o :: rest) (hrest : (rest.map fun v => v.category).sum ≤ 8)
    (hf : hO (t + tn + 1) ov n (cX ci o c x f g) Q) (call : x.isSome = true → mC Z M' (d - 1) kc (6 * kc) (.ref o :: as) (n, c) (mP tn ovI n x))
    (kk : ∀ (v : Int32) (c' : mm_C) (n' : Nat), n ≤ n' → n' ≤ n + tn → hO t ov n' (f v c') Q → mG Z M X (k + kc) (w + 6 * kc) mc ms Q (npc, lv, .int v :: rest, (n', c')))
    (kx : ∀ e c' n', n ≤ n' → n' ≤ n + tn + 1 → hO t ov n' (g e c') Q → mX Z M X (k + kc) (w + 6 * kc) mc ms Q pc lv (n', c') e) : mG Z M X k w mc ms Q (pc, lv, st, (n, c)) := mh_cX (ov' := ovI) C hc hw hcal hin hse hRm hdd hL hk hw' hcl hn hst hrest hf call (fun v c' n' h1 h2 h => kk v c' n' h1 h2 h) kx
theorem mh_cXL {idx o ci N m : Nat} {T : u_T} {x : mR Int64} {f : Int64 → mm_C → mR β} {g : Nat → mm_C → mR β} (C : mm_Ok Z M X) (hc : mm_cd M pc = some (.invokevirtual idx, npc, a, b, wd)) (hw : wd = .methodLink M.1.cls idx M'.1) (hcal : mm_cal M' m) (hin : Cond.instanceMethod M'.1 ∈ mm_tbl) (hse : Cond.selects M'.1.cls M'.1 M'.1 ∈ mm_tbl)
    (hRm : mt_R X = mm_rm d mc ms) (hdd : 1 ≤ d) (hL : M'.2.2.1 ≤ 21) (hk : k + kc ≤ mc) (hw' : w + 6 * kc ≤ ms) (hcl : mm_cl[ci]? = some (M'.1.cls, T, N)) (hn : as.length = m) (hst : st = as.reverse ++ .ref o :: rest) (hrest : (rest.map fun v => v.category).sum ≤ 8)
    (hf : hO (t + tn + 1) ov n (cX ci o c x f g) Q) (call : x.isSome = true → mC Z M' (d - 1) kc (6 * kc) (.ref o :: as) (n, c) (mP tn ovL n x))
    (kk : ∀ (v : Int64) (c' : mm_C) (n' : Nat), n ≤ n' → n' ≤ n + tn → hO t ov n' (f v c') Q → mG Z M X (k + kc) (w + 6 * kc) mc ms Q (npc, lv, .long v :: rest, (n', c')))
    (kx : ∀ e c' n', n ≤ n' → n' ≤ n + tn + 1 → hO t ov n' (g e c') Q → mX Z M X (k + kc) (w + 6 * kc) mc ms Q pc lv (n', c') e) : mG Z M X k w mc ms Q (pc, lv, st, (n, c)) := mh_cX (ov' := ovL) C hc hw hcal hin hse hRm hdd hL hk hw' hcl hn hst hrest hf call (fun v c' n' h1 h2 h => kk v c' n' h1 h2 h) kx
theorem mh_cXU {idx o ci N m : Nat} {T : u_T} {x : mR Unit} {f : Unit → mm_C → mR β} {g : Nat → mm_C → mR β} (C : mm_Ok Z M X) (hc : mm_cd M pc = some (.invokevirtual idx, npc, a, b, wd)) (hw : wd = .methodLink M.1.cls idx M'.1) (hcal : mm_cal M' m) (hin : Cond.instanceMethod M'.1 ∈ mm_tbl) (hse : Cond.selects M'.1.cls M'.1 M'.1 ∈ mm_tbl)
    (hRm : mt_R X = mm_rm d mc ms) (hdd : 1 ≤ d) (hL : M'.2.2.1 ≤ 21) (hk : k + kc ≤ mc) (hw' : w + 6 * kc ≤ ms) (hcl : mm_cl[ci]? = some (M'.1.cls, T, N)) (hn : as.length = m) (hst : st = as.reverse ++ .ref o :: rest) (hrest : (rest.map fun v => v.category).sum ≤ 8)
    (hf : hO (t + tn + 1) ov n (cX ci o c x f g) Q) (call : x.isSome = true → mC Z M' (d - 1) kc (6 * kc) (.ref o :: as) (n, c) (mP tn ovU n x))
    (kk : ∀ (c' : mm_C) (n' : Nat), n ≤ n' → n' ≤ n + tn → hO t ov n' (f () c') Q → mG Z M X (k + kc) (w + 6 * kc) mc ms Q (npc, lv, rest, (n', c')))
    (kx : ∀ e c' n', n ≤ n' → n' ≤ n + tn + 1 → hO t ov n' (g e c') Q → mX Z M X (k + kc) (w + 6 * kc) mc ms Q pc lv (n', c') e) : mG Z M X k w mc ms Q (pc, lv, st, (n, c)) := mh_cX (ov' := ovU) C hc hw hcal hin hse hRm hdd hL hk hw' hcl hn hst hrest hf call (fun v c' n' h1 h2 h => kk c' n' h1 h2 h) kx
theorem mh_c1I {idx o ci N m : Nat} {T : u_T} {x : mR Int32} {f : Int32 → mm_C → mR β} (C : mm_Ok Z M X) (hc : mm_cd M pc = some (.invokevirtual idx, npc, a, b, wd)) (hw : wd = .methodLink M.1.cls idx M'.1) (hcal : mm_calW M' m) (hin : Cond.instanceMethod M'.1 ∈ mm_tbl) (hse : Cond.selects M'.1.cls M'.1 M'.1 ∈ mm_tbl)
    (hRm : mt_R X = mm_rm d mc ms) (hdd : 1 ≤ d) (hL : M'.2.2.1 ≤ 21) (hk : k + 1 ≤ mc) (hw' : w + 6 ≤ ms) (hcl : mm_cl[ci]? = some (M'.1.cls, T, N)) (hn : as.length = m) (hst : st = as.reverse ++ .ref o :: rest) (hrest : (rest.map fun v => v.category).sum ≤ 8) (hout : M.2.2.2.2.1.all (fun r => !(decide (r.1 ≤ pc) && decide (pc < r.2.1))) = true)
    (hf : hO (t + 1) ov n (cV ci o c x f) Q) (call : x.isSome = true → mC Z M' (d - 1) 1 6 (.ref o :: as) (n, c) (mP 1 ovI n x))
    (kk : ∀ (v : Int32) (c' : mm_C) (n' : Nat), n ≤ n' → n' ≤ n + 1 → hO t ov n' (f v c') Q → mG Z M X (k + 1) (w + 6) mc ms Q (npc, lv, .int v :: rest, (n', c'))) : mG Z M X k w mc ms Q (pc, lv, st, (n, c)) := mh_c1 (ov' := ovI) C hc hw hcal hin hse hRm hdd hL hk hw' hcl hn hst hrest hout hf call kk
end HX
