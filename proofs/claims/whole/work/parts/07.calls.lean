/-! CALLS, over the small machine: a callee returns or throws -/
/-- an exception of class ci has come out of the call at pc -/
def mX (Z : mm_Z) (M : mm_M) (X : mm_T) (k w mc ms : Nat) (Q : mm_O → mm_H → Prop) (pc : Nat) (lv : mm_V) (h : mm_H) (ci : Nat) : Prop :=
  ∀ (H : Heap) (locs : List Loc) (ls : Array Slot) (rest : List Value) (q : Addr) (ce : Cell) (E : String), mm_Rel Z h H → va_S (fun q => mm_B Z ≤ q) (mt_s X).heap H locs → lv_has ls M.2.2.1 (lv.map fun q => (q.1, mm_tr Z q.2)) → mm_ex[ci]? = some E → H[q]? = some ce → ce.vm = .none → (mt_s X).vm.findClass E = some ce.cls →
    vx_W (mt_p X) Z.1 (mt_e X) (mt_R X) (mt_s X) (mt_m X) (mt_a X) (mt_b X) (mt_h X) (mt_c X) H locs k w (vx_MQ (mt_b X) (mm_Qc Z Q) (mm_XC Z Q) (mt_a X) (mt_s X) mc ms (fun q => mm_B Z ≤ q)) (F0 (mt_m X) pc ls rest) q
/-- the words of a callee: its code, its class -/
def mm_cal (M : mm_M) (n : Nat) : Prop := (mm_w M).head? = some (Cond.code M.1 M.2.1 M.2.2.1 M.2.2.2.1) ∧ Cond.code M.1 M.2.1 M.2.2.1 M.2.2.2.1 ∈ mm_tbl ∧ Cond.initialized M.1.cls ∈ mm_tbl ∧ M.1.cls ≠ "java/lang/invoke/MethodHandle" ∧ M.1.cls ≠ "java/lang/invoke/VarHandle" ∧ (parseMethodDescriptor M.1.desc).map (fun d => d.parameters.length) = some n
theorem mm_cal_w {M : mm_M} {n : Nat} (h : mm_cal M n) : mm_w M = Cond.code M.1 M.2.1 M.2.2.1 M.2.2.2.1 :: mm_tbl := by
  have h1 := h.1
  unfold mm_w at h1 ⊢
  simp only [List.head?_cons, Option.some.injEq] at h1
  rw [h1]
theorem mm_cal_good {M : mm_M} {n : Nat} (h : mm_cal M n) : GoodIn mm_tbl (mm_w M) := by
  rw [mm_cal_w h]
  intro w hw
  rcases List.mem_cons.mp hw with h1 | h1
  · rw [h1]; exact mm_tbl_good _ h.2.1
  · exact mm_tbl_good w h1
section MC
variable {Z : mm_Z} {M M' : mm_M} {X : mm_T} {k w mc ms d d' mc' ms' : Nat} {Q Q' : mm_O → mm_H → Prop} {pc npc a b : Nat} {wd : Cond} {lv : mm_V} {st rest as : List Value} {h : mm_H} {n : Nat}
theorem mm_cb {idx : Nat} (hts : ∀ w ∈ mm_tbl, w.before (mt_a X) (mt_s X) = true) (hcal : mm_cal M' n) (hlink : (Cond.methodLink M.1.cls idx M'.1).before (mt_a X) (mt_s X) = true) (hRm : mt_R X = mm_rm d mc ms) (hd : d' + 1 ≤ d) (hL : M'.2.2.1 ≤ 21) : CallB (mt_R X) (mt_s X) (mt_a X) M.1.cls idx M'.1 M'.2.1 M'.2.2.1 M'.2.2.2.1 (mm_w M') (mm_rm d' mc' ms') mc' ms' n := by
  refine callB_of n hts (mm_cal_good hcal) (mm_cal_w hcal) rfl rfl (hts _ hcal.2.2.1) hlink ⟨hcal.2.2.2.1, hcal.2.2.2.2.1, hcal.2.2.2.2.2⟩ ?_
  rw [hRm]
  exact ⟨hd, by show 8 + (M'.2.2.1 + 11) + 40 * d' ≤ 40 * d; omega⟩
theorem mm_cats (Z : mm_Z) (rest : List Value) : (rest.map (mm_tr Z)).map (fun v => v.category) = rest.map fun v => v.category := by
  rw [List.map_map]
  exact List.map_congr_left fun v _ => mm_tr_cat Z v
/-- behind a call -/
theorem mm_after {H : Heap} {locs : List Loc} {ls : Array Slot} {st0 : List Value} {A : Array Value} (hR : mm_Rel Z h H) (hS : va_S (fun q => mm_B Z ≤ q) (mt_s X).heap H locs) (hl : lv_has ls M.2.2.1 (lv.map fun q => (q.1, mm_tr Z q.2)))
    (hr : vx_Run (mt_p X) Z.1 (mt_e X) (mt_R X) (mt_s X) (mt_m X) (mt_a X) (mt_b X) (mt_h X) (mt_c X) H locs k w mc' ms' (F0 (mt_m X) pc ls st0) (rest.map (mm_tr Z)) (mm_Qc Z Q' A) (mm_XC Z Q') (fun q => mm_B Z ≤ q))
    (kx : ∀ ci h', Q' (.inr ci) h' → mX Z M X (k + mc') (w + ms') mc ms Q pc lv h' ci)
    (kk : ∀ v h', Q' (.inl v) h' → mG Z M X (k + mc') (w + ms') mc ms Q (pc + 3, lv, v.toList ++ rest, h')) :
    W (mt_p X) Z.1 (mt_e X) (mt_R X) (mt_s X) (mt_m X) (mt_a X) (mt_b X) (mt_h X) (mt_c X) H locs k w (vx_MQ (mt_b X) (mm_Qc Z Q) (mm_XC Z Q) (mt_a X) (mt_s X) mc ms (fun q => mm_B Z ≤ q)) (F0 (mt_m X) pc ls st0) := by
  intro T hT Y
  have move : ∀ {T' t : State} {L : List Loc} {h' : mm_H}, mm_Rel Z h' t.heap → T'.heap = t.heap → (∀ q ∈ L, mm_B Z ≤ q.base) → (mt_s X).heap.size ≤ T'.heap.size → va_S (fun q => mm_B Z ≤ q) (mt_s X).heap T'.heap (locs ++ L) := by
    intro T' t L h' hR' e1 hL hz
    refine ⟨hz, fun q h1 h2 => ?_, fun q hq => ?_⟩
    · rw [e1, hR'.2.2.1 q (Nat.lt_of_not_le h2), ← hR.2.2.1 q (Nat.lt_of_not_le h2)]
      exact hS.2.1 q h1 h2
    · rcases List.mem_append.mp hq with h | h
      · exact hS.2.2 q h
      · exact hL q h
  rcases hr T hT Y with ⟨v, st₀, t, T', L, h0, Y', hL, e1, e2, ⟨v', h', hv, hq, hR'⟩, stp⟩ | ⟨q, st₀, t, T', L, E, ce, h0, Y', hL, e1, e2, ⟨ci, h', hE, hq, hR'⟩, hce, hcv, hcl, stp⟩
  · cases hv
    obtain ⟨t2, a1, b1⟩ := kk v' h' hq T'.heap (locs ++ L) ls (by rw [e1]; exact hR') (move hR' e1 hL (by have := Y'.same.2.1; exact this)) hl T' rfl Y'
    refine ⟨t2, stp t2 ?_, b1⟩
    have e9 : (v'.toList ++ rest).map (mm_tr Z) = (v'.map (mm_tr Z)).toList ++ rest.map (mm_tr Z) := by cases v' <;> simp
    have a2 := a1
    simp only at a2
    rw [e9] at a2
    exact a2
  · obtain ⟨t2, a1, b1⟩ := kx ci h' hq T'.heap (locs ++ L) ls (rest.map (mm_tr Z)) q ce E (by rw [e1]; exact hR') (move hR' e1 hL (by have := Y'.same.2.1; exact this)) hl hE (by rw [e1]; exact hce) hcv hcl T' rfl Y'
    exact ⟨t2, stp.trans a1, b1⟩
theorem mg_invokevirtual {idx o ci : Nat} {fs : List Value} {N : Nat} {T : u_T} (C : mm_Ok Z M X) (hc : mm_cd M pc = some (.invokevirtual idx, npc, a, b, wd)) (hw : wd = .methodLink M.1.cls idx M'.1) (hcal : mm_cal M' n) (hin : Cond.instanceMethod M'.1 ∈ mm_tbl) (hse : Cond.selects M'.1.cls M'.1 M'.1 ∈ mm_tbl)
    (hRm : mt_R X = mm_rm d mc ms) (hdd : d' + 1 ≤ d) (hL : M'.2.2.1 ≤ 21) (hk : k + mc' ≤ mc) (hw' : w + ms' ≤ ms) (call : mC Z M' d' mc' ms' (.ref o :: as) h Q') (hn : as.length = n) (hst : st = as.reverse ++ .ref o :: rest) (hrest : (rest.map fun v => v.category).sum ≤ 8)
    (ho : h.2 o = some (.inr (ci, fs))) (hcl : mm_cl[ci]? = some (M'.1.cls, T, N))
    (kx : ∀ ci h', Q' (.inr ci) h' → mX Z M X (k + mc') (w + ms') mc ms Q pc lv h' ci)
    (kk : ∀ v h', Q' (.inl v) h' → mG Z M X (k + mc') (w + ms') mc ms Q (npc, lv, v.toList ++ rest, h')) : mG Z M X k w mc ms Q (pc, lv, st, h) := by
  intro H locs ls hR hS hl
  obtain ⟨hx, hb, hml, hr, hhs, hown, hnm, hlk, hts, hK, hB1, hB2, hg⟩ := C
  obtain ⟨hd, hp, hbr, hwd⟩ := hg _ _ _ _ _ _ hc
  simp only [mm_len] at hp hd
  subst hp hw hst
  have hlink := mm_wd hts hwd (by simp)
  have he := (hR.2.2.2 o _ ho).2
  have ead := mm_stk hR ho
  refine mm_after hR hS hl (vx_runV (Ts := mm_tbl) (nL := M.2.2.1) (C := M'.1.cls) (As := as.map (mm_tr Z)) (b := mm_ad Z o) (n := n) ⟨hx, hb, hml, hown, hts⟩ call ⟨mm_cb (M := M) (d := d) (d' := d') hts hcal hlink hRm hdd hL, hts _ hin, hts _ hse⟩ ⟨mm_blind Z _ h, ?_, fun U hU hW => ⟨rfl, by rw [hU]; exact hR, hK.warm hW⟩⟩ rfl (by rw [List.length_map]; exact hn) hl.1 ?_ (lv_room (by rw [mm_cats]; exact hrest)) hd ?_) kx kk
  · rw [ead]
    exact va_recv hK.1 (mm_one he) (q0 := 0) hcl rfl
  · show (List.map (mm_tr Z) (as.reverse ++ .ref o :: rest)) = _
    rw [List.map_append, List.map_reverse, List.map_cons, mm_tr_ref]
  · rw [hRm]; exact ⟨hk, hw'⟩
theorem mg_invokestatic {idx : Nat} (C : mm_Ok Z M X) (hc : mm_cd M pc = some (.invokestatic idx, npc, a, b, wd)) (hw : wd = .methodLink M.1.cls idx M'.1) (hcal : mm_cal M' n) (hsta : Cond.static M'.1 ∈ mm_tbl)
    (hRm : mt_R X = mm_rm d mc ms) (hdd : d' + 1 ≤ d) (hL : M'.2.2.1 ≤ 21) (hk : k + mc' ≤ mc) (hw' : w + ms' ≤ ms) (call : mC Z M' d' mc' ms' as h Q') (hn : as.length = n) (hst : st = as.reverse ++ rest) (hrest : (rest.map fun v => v.category).sum ≤ 8)
    (kx : ∀ ci h', Q' (.inr ci) h' → mX Z M X (k + mc') (w + ms') mc ms Q pc lv h' ci)
    (kk : ∀ v h', Q' (.inl v) h' → mG Z M X (k + mc') (w + ms') mc ms Q (npc, lv, v.toList ++ rest, h')) : mG Z M X k w mc ms Q (pc, lv, st, h) := by
  intro H locs ls hR hS hl
  obtain ⟨hx, hb, hml, hr, hhs, hown, hnm, hlk, hts, hK, hB1, hB2, hg⟩ := C
  obtain ⟨hd, hp, hbr, hwd⟩ := hg _ _ _ _ _ _ hc
  simp only [mm_len] at hp hd
  subst hp hw hst
  have hlink := mm_wd hts hwd (by simp)
  refine mm_after hR hS hl (vx_runS (Ts := mm_tbl) (nL := M.2.2.1) (As := as.map (mm_tr Z)) (n := n) ⟨hx, hb, hml, hown, hts⟩ call ⟨mm_cb (M := M) (d := d) (d' := d') hts hcal hlink hRm hdd hL, hts _ hsta⟩ ⟨mm_blind Z _ h, fun U hU hW => ⟨rfl, by rw [hU]; exact hR, hK.warm hW⟩⟩ rfl (by rw [List.length_map]; exact hn) hl.1 ?_ (lv_room (by rw [mm_cats]; exact hrest)) hd ?_) kx kk
  · show (List.map (mm_tr Z) (as.reverse ++ rest)) = _
    rw [List.map_append, List.map_reverse]
  · rw [hRm]; exact ⟨hk, hw'⟩
/-- not caught here -/
theorem mx_out {ci : Nat} (C : mm_Ok Z M X) (hout : M.2.2.2.2.1.all (fun r => !(decide (r.1 ≤ pc) && decide (pc < r.2.1))) = true) (hk : k ≤ mc) (hw : w ≤ ms) (hq : Q (.inr ci) h) : mX Z M X k w mc ms Q pc lv h ci := by
  intro H locs ls rst q ce E hR hS hl hE hce hcv hcl
  obtain ⟨hx, hb, hml, hr, hhs, hown, hnm, hlk, hts, hK, hB1, hB2, hg⟩ := C
  refine vx_out (E := E) (fun x hx => ?_) hlk hce hcv hcl (fun t ht _ => ⟨ci, h, hE, hq, by rw [ht]; exact hR⟩) hS.2.2 hk hw
  rw [← hhs] at hout
  have h1 := List.all_eq_true.mp hout _ (List.mem_map.mpr ⟨x, hx, rfl⟩)
  have h2 : (!covers x pc) = true := h1
  cases h3 : covers x pc with
  | false => rfl
  | true => rw [h3] at h2; cases h2
end MC
