/-! calls whose callee, where it returns, has made no cell: the caller's account stays as it was -/
theorem mm_tight {p : Program} {l : Launch} {e : Env} {R : Room} {s : State} {m : MethodId} {args : Array Value} {below : List Frame} {meth : Method} {c : Code} {T T' : State} {locs locs' : List Loc} {cells slots cells' slots' : Nat}
    (Y : Stand p l e R s m args below meth c T locs cells slots) (Y' : Stand p l e R s m args below meth c T' locs' cells' slots') (hz : T'.heap.size = T.heap.size) (hs : ∀ (a : Nat) (cl : Cell), T.heap[a]? = some cl → ∃ cl', T'.heap[a]? = some cl' ∧ cl'.slots.size = cl.slots.size) : Stand p l e R s m args below meth c T' locs' cells slots := by
  have e0 : T'.heap.toList.map (fun cl => cl.slots.size) = T.heap.toList.map (fun cl => cl.slots.size) := by
    apply List.ext_getElem?
    intro i
    rw [List.getElem?_map, List.getElem?_map, Array.getElem?_toList, Array.getElem?_toList]
    cases h : T.heap[i]? with
    | none =>
      have h1 : T.heap.size ≤ i := Array.getElem?_eq_none_iff.mp h
      rw [Array.getElem?_eq_none_iff.mpr (by rw [hz]; exact h1)]
    | some cl =>
      obtain ⟨cl', h1, h2⟩ := hs i cl h
      rw [h1]
      simp [h2]
  obtain ⟨h1, h2, h3, h4, h5, h6⟩ := Y'.same
  obtain ⟨g1, g2, g3, g4, g5, g6⟩ := Y.same
  refine ⟨Y'.admits, Y'.cas, Y'.clock, Y'.frames, Y'.room, Y'.hears, Y'.method, Y'.code, Y'.here, Y'.tail, Y'.warmed, Y'.limits, Y'.bytes, h1, h2, ?_, h4, ?_, h6⟩
  · show T'.heap.size ≤ s.heap.size + cells
    rw [hz]
    exact g3
  · show ((T'.heap.toList.drop s.heap.size).map (fun cl => cl.slots.size)).sum ≤ slots
    rw [List.map_drop, e0, ← List.map_drop]
    exact g5
section MD
variable {Z : mm_Z} {M M' : mm_M} {X : mm_T} {k w mc ms d d' mc' ms' : Nat} {Q Q' : mm_O → mm_H → Prop} {pc npc a b : Nat} {wd : Cond} {lv : mm_V} {st rest as : List Value} {h : mm_H} {n : Nat}
def mm_Qe (Z : mm_Z) (Q : mm_O → mm_H → Prop) (mc ms : Nat) : Array Value → State → Outcome → State → Prop := fun a s o t => mm_Qc Z Q a s o t ∧ ∃ L, FrameEnd s o t L mc ms
theorem mC_end (call : mC Z M' d' mc' ms' as h Q') : vx_Met Z.1 M'.1 (mm_w M') (mm_rm d' mc' ms') (mm_Pc Z as h) (mm_Qe Z Q' mc' ms') (mm_XC Z Q') mc' ms' (fun q => mm_B Z ≤ q) := by
  unfold mC vx_Met at call
  unfold vx_Met
  refine MetFree.mono call (fun _ _ h => h) (fun _ _ _ _ _ h => h) (fun a0 s0 o0 t0 _ hq => ?_)
  rcases hq with ⟨hq, L, hL, hf⟩ | hq
  · exact Or.inl ⟨⟨hq, L, hL⟩, L, hL, hf⟩
  · exact Or.inr hq
theorem mm_after0 {H : Heap} {locs : List Loc} {ls : Array Slot} {st0 : List Value} {A : Array Value} (hR : mm_Rel Z h H) (hS : va_S (fun q => mm_B Z ≤ q) (mt_s X).heap H locs) (hl : lv_has ls M.2.2.1 (lv.map fun q => (q.1, mm_tr Z q.2)))
    (hr : vx_Run (mt_p X) Z.1 (mt_e X) (mt_R X) (mt_s X) (mt_m X) (mt_a X) (mt_b X) (mt_h X) (mt_c X) H locs k w mc' ms' (F0 (mt_m X) pc ls st0) (rest.map (mm_tr Z)) (mm_Qe Z Q' mc' ms' A) (mm_XC Z Q') (fun q => mm_B Z ≤ q))
    (kx : ∀ ci h', Q' (.inr ci) h' → mX Z M X (k + mc') (w + ms') mc ms Q pc lv h' ci) (h0 : ∀ v h', Q' (.inl v) h' → h'.1 = h.1)
    (kk : ∀ v h', Q' (.inl v) h' → mG Z M X k w mc ms Q (pc + 3, lv, v.toList ++ rest, h')) :
    W (mt_p X) Z.1 (mt_e X) (mt_R X) (mt_s X) (mt_m X) (mt_a X) (mt_b X) (mt_h X) (mt_c X) H locs k w (vx_MQ (mt_b X) (mm_Qc Z Q) (mm_XC Z Q) (mt_a X) (mt_s X) mc ms (fun q => mm_B Z ≤ q)) (F0 (mt_m X) pc ls st0) := by
  intro T hT Y
  have move : ∀ {T' t : State} {L : List Loc} {h' : mm_H}, mm_Rel Z h' t.heap → T'.heap = t.heap → (∀ q ∈ L, mm_B Z ≤ q.base) → (mt_s X).heap.size ≤ T'.heap.size → va_S (fun q => mm_B Z ≤ q) (mt_s X).heap T'.heap (locs ++ L) := by
    intro T' t L h' hR' e1 hL hz
    refine ⟨hz, fun q h1 h2 => ?_, fun q hq => ?_⟩
    · rw [e1, hR'.2.2.1 q (Nat.lt_of_not_le h2), ← hR.2.2.1 q (Nat.lt_of_not_le h2)]
      exact hS.2.1 q h1 h2
    · rcases List.mem_append.mp hq with h | h
      · exact hS.2.2 q h
      · exact hL q h
  rcases hr T hT Y with ⟨v, st₀, t, T', L, h9, Y', hL, e1, e2, ⟨⟨v', h', hv, hq, hR'⟩, Le, hLe⟩, stp⟩ | ⟨q, st₀, t, T', L, E, ce, h9, Y', hL, e1, e2, ⟨ci, h', hE, hq, hR'⟩, hce, hcv, hcl, stp⟩
  · cases hv
    have hz : T'.heap.size = T.heap.size := by rw [e1, hR'.1, h0 _ _ hq, hT, hR.1]
    have Y2 := mm_tight Y Y' hz (fun a cl ha => by
      have h8 := hLe.2.2.2.2.2.2.2 a cl (by show st₀.heap[a]? = _; rw [h9, ← hT]; exact ha)
      obtain ⟨cl', q1, -, q2, -⟩ := h8
      exact ⟨cl', by rw [e1]; exact q1, q2⟩)
    obtain ⟨t2, a1, b1⟩ := kk v' h' hq T'.heap (locs ++ L) ls (by rw [e1]; exact hR') (move hR' e1 hL (by have := Y'.same.2.1; exact this)) hl T' rfl Y2
    refine ⟨t2, stp t2 ?_, b1⟩
    have e9 : (v'.toList ++ rest).map (mm_tr Z) = (v'.map (mm_tr Z)).toList ++ rest.map (mm_tr Z) := by cases v' <;> simp
    have a2 := a1
    simp only at a2
    rw [e9] at a2
    exact a2
  · obtain ⟨t2, a1, b1⟩ := kx ci h' hq T'.heap (locs ++ L) ls (rest.map (mm_tr Z)) q ce E (by rw [e1]; exact hR') (move hR' e1 hL (by have := Y'.same.2.1; exact this)) hl hE (by rw [e1]; exact hce) hcv hcl T' rfl Y'
    exact ⟨t2, stp.trans a1, b1⟩
theorem mg_virt0 {idx o ci : Nat} {fs : List Value} {N : Nat} {T : u_T} (C : mm_Ok Z M X) (hc : mm_cd M pc = some (.invokevirtual idx, npc, a, b, wd)) (hw : wd = .methodLink M.1.cls idx M'.1) (hcal : mm_cal M' n) (hin : Cond.instanceMethod M'.1 ∈ mm_tbl) (hse : Cond.selects M'.1.cls M'.1 M'.1 ∈ mm_tbl)
    (hRm : mt_R X = mm_rm d mc ms) (hdd : d' + 1 ≤ d) (hL : M'.2.2.1 ≤ 21) (hk : k + mc' ≤ mc) (hw' : w + ms' ≤ ms) (call : mC Z M' d' mc' ms' (.ref o :: as) h Q') (hn : as.length = n) (hst : st = as.reverse ++ .ref o :: rest) (hrest : (rest.map fun v => v.category).sum ≤ 8)
    (ho : h.2 o = some (.inr (ci, fs))) (hcl : mm_cl[ci]? = some (M'.1.cls, T, N))
    (kx : ∀ ci h', Q' (.inr ci) h' → mX Z M X (k + mc') (w + ms') mc ms Q pc lv h' ci) (h0 : ∀ v h', Q' (.inl v) h' → h'.1 = h.1)
    (kk : ∀ v h', Q' (.inl v) h' → mG Z M X k w mc ms Q (npc, lv, v.toList ++ rest, h')) : mG Z M X k w mc ms Q (pc, lv, st, h) := by
  intro H locs ls hR hS hl
  obtain ⟨hx, hb, hml, hr, hhs, hown, hnm, hlk, hts, hK, hB1, hB2, hg⟩ := C
  obtain ⟨hd, hp, hbr, hwd⟩ := hg _ _ _ _ _ _ hc
  simp only [mm_len] at hp hd
  subst hp hw hst
  have hlink := mm_wd hts hwd (by simp)
  have he := (hR.2.2.2 o _ ho).2
  have ead := mm_stk hR ho
  refine mm_after0 hR hS hl (vx_runV (Ts := mm_tbl) (nL := M.2.2.1) (C := M'.1.cls) (As := as.map (mm_tr Z)) (b := mm_ad Z o) (n := n) ⟨hx, hb, hml, hown, hts⟩ (mC_end call) ⟨mm_cb (M := M) (d := d) (d' := d') hts hcal hlink hRm hdd hL, hts _ hin, hts _ hse⟩ ⟨mm_blind Z _ h, ?_, fun U hU hW => ⟨rfl, by rw [hU]; exact hR, hK.warm hW⟩⟩ rfl (by rw [List.length_map]; exact hn) hl.1 ?_ (lv_room (by rw [mm_cats]; exact hrest)) hd ?_) kx h0 kk
  · rw [ead]
    exact va_recv hK.1 (mm_one he) (q0 := 0) hcl rfl
  · show (List.map (mm_tr Z) (as.reverse ++ .ref o :: rest)) = _
    rw [List.map_append, List.map_reverse, List.map_cons, mm_tr_ref]
  · rw [hRm]; exact ⟨hk, hw'⟩
theorem mg_stat0 {idx : Nat} (C : mm_Ok Z M X) (hc : mm_cd M pc = some (.invokestatic idx, npc, a, b, wd)) (hw : wd = .methodLink M.1.cls idx M'.1) (hcal : mm_cal M' n) (hsta : Cond.static M'.1 ∈ mm_tbl)
    (hRm : mt_R X = mm_rm d mc ms) (hdd : d' + 1 ≤ d) (hL : M'.2.2.1 ≤ 21) (hk : k + mc' ≤ mc) (hw' : w + ms' ≤ ms) (call : mC Z M' d' mc' ms' as h Q') (hn : as.length = n) (hst : st = as.reverse ++ rest) (hrest : (rest.map fun v => v.category).sum ≤ 8)
    (kx : ∀ ci h', Q' (.inr ci) h' → mX Z M X (k + mc') (w + ms') mc ms Q pc lv h' ci) (h0 : ∀ v h', Q' (.inl v) h' → h'.1 = h.1)
    (kk : ∀ v h', Q' (.inl v) h' → mG Z M X k w mc ms Q (npc, lv, v.toList ++ rest, h')) : mG Z M X k w mc ms Q (pc, lv, st, h) := by
  intro H locs ls hR hS hl
  obtain ⟨hx, hb, hml, hr, hhs, hown, hnm, hlk, hts, hK, hB1, hB2, hg⟩ := C
  obtain ⟨hd, hp, hbr, hwd⟩ := hg _ _ _ _ _ _ hc
  simp only [mm_len] at hp hd
  subst hp hw hst
  have hlink := mm_wd hts hwd (by simp)
  refine mm_after0 hR hS hl (vx_runS (Ts := mm_tbl) (nL := M.2.2.1) (As := as.map (mm_tr Z)) (n := n) ⟨hx, hb, hml, hown, hts⟩ (mC_end call) ⟨mm_cb (M := M) (d := d) (d' := d') hts hcal hlink hRm hdd hL, hts _ hsta⟩ ⟨mm_blind Z _ h, fun U hU hW => ⟨rfl, by rw [hU]; exact hR, hK.warm hW⟩⟩ rfl (by rw [List.length_map]; exact hn) hl.1 ?_ (lv_room (by rw [mm_cats]; exact hrest)) hd ?_) kx h0 kk
  · show (List.map (mm_tr Z) (as.reverse ++ rest)) = _
    rw [List.map_append, List.map_reverse]
  · rw [hRm]; exact ⟨hk, hw'⟩
/-- a lookupswitch; a String constant by the wide instruction -/
theorem mg_look {dflt : Int} {ps : Array (Int × Int)} {x : Int32} {off : Int} {tgt : Nat} (C : mm_Ok Z M X) (hc : mm_cd M pc = some (.lookupswitch dflt ps, npc, a, b, wd)) (hp0 : (ps.toList.zip (ps.toList.drop 1)).all (fun (a, next) => a.1 < next.1) = true) (ho : Op.lookupswitch.offset ps.toList dflt x.toInt = off) (ht : (pc : Int) + off = (tgt : Int)) (kk : mG Z M X k w mc ms Q (tgt, lv, st, h)) : mG Z M X k w mc ms Q (pc, lv, .int x :: st, h) := by
  intro H locs ls hR hS hl
  obtain ⟨hx, hb, hml, hr, hhs, hown, hnm, hlk, hts, hK, hB1, hB2, hg⟩ := C
  obtain ⟨hd, hp, hbr, hwd⟩ := hg _ _ _ _ _ _ hc
  exact lv_lookup hx hb hd hp0 ho ht (kk H locs ls hR hS hl)
theorem mg_ldcSw {idx i : Nat} {tx : String} (C : mm_Ok Z M X) (hc : mm_cd M pc = some (.ldc_w idx, npc, a, b, wd)) (hs : (M.1.cls, idx, tx, i) ∈ mm_sr) (kk : mG Z M X k w mc ms Q (npc, lv, .ref (1000000 + i) :: st, h)) : mG Z M X k w mc ms Q (pc, lv, st, h) := by
  intro H locs ls hR hS hl
  obtain ⟨hx, hb, hml, hr, hhs, hown, hnm, hlk, hts, hK, hB1, hB2, hg⟩ := C
  obtain ⟨hd, hp, hbr, hwd⟩ := hg _ _ _ _ _ _ hc
  simp only [mm_len] at hp hd
  subst hp
  have h9 := kk H locs ls hR hS hl
  have e9 : mm_ad Z (1000000 + i) = Z.2.2.2.1 i := by
    unfold mm_ad
    rw [if_neg (by omega), Nat.add_sub_cancel_left]
  simp only [List.map_cons, mm_tr_ref, e9] at h9
  have hZ := hK.2.2.2.1 _ hs
  intro T hT Y
  obtain ⟨t, a1, b1⟩ := h9 T hT Y
  exact ⟨t, Y.ldcStringW hx hown (text := tx) (a := Z.2.2.2.1 i) hZ.1 hZ.2 (g := F0 (mt_m X) pc ls (st.map (mm_tr Z))) rfl (by rw [hb]; exact hd) t a1, b1⟩
theorem mg_tabIn {dflt lo hi : Int} {offs : Array Int} {x v : Int32} {off : Int} {tgt : Nat} (e : x = v) (C : mm_Ok Z M X) (hc : mm_cd M pc = some (.tableswitch dflt lo hi offs, npc, a, b, wd)) (h1 : ¬ v.toInt < lo) (h2 : ¬ hi < v.toInt) (ho : offs[(v.toInt - lo).toNat]? = some off) (ht : (pc : Int) + off = (tgt : Int)) (kk : mG Z M X k w mc ms Q (tgt, lv, st, h)) : mG Z M X k w mc ms Q (pc, lv, .int x :: st, h) := by
  subst e
  exact mg_tableIn C hc h1 h2 ho ht kk
theorem mg_lookIn {dflt : Int} {ps : Array (Int × Int)} {x v : Int32} {off : Int} {tgt : Nat} (e : x = v) (C : mm_Ok Z M X) (hc : mm_cd M pc = some (.lookupswitch dflt ps, npc, a, b, wd)) (hp0 : (ps.toList.zip (ps.toList.drop 1)).all (fun (a, next) => a.1 < next.1) = true) (ho : Op.lookupswitch.offset ps.toList dflt v.toInt = off) (ht : (pc : Int) + off = (tgt : Int)) (kk : mG Z M X k w mc ms Q (tgt, lv, st, h)) : mG Z M X k w mc ms Q (pc, lv, .int x :: st, h) := by
  subst e
  exact mg_look C hc hp0 ho ht kk
theorem tsw_out {x : Int32} {lo hi : Int} (l : List Int32) (hl : ∀ i : Nat, i < (hi + 1 - lo).toNat → Int32.ofInt (lo + (i : Int)) ∈ l) (h : ∀ v ∈ l, ¬ x = v) : x.toInt < lo ∨ hi < x.toInt := by
  rcases Int.lt_or_le x.toInt lo with h1 | h1
  · exact Or.inl h1
  rcases Int.lt_or_le hi x.toInt with h2 | h2
  · exact Or.inr h2
  have h3 := hl (x.toInt - lo).toNat (by omega)
  rw [show lo + (((x.toInt - lo).toNat : Nat) : Int) = x.toInt by omega, Int32.ofInt_toInt] at h3
  exact absurd rfl (h x h3)
end MD
