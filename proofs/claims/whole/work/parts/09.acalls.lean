/-! CONSTRUCTORS; methods with handlers; catching, over the small machine -/
section MD
variable {Z : mm_Z} {M M' : mm_M} {X : mm_T} {k w mc ms d d' mc' ms' : Nat} {Q Q' : mm_O → mm_H → Prop} {pc npc a b : Nat} {wd : Cond} {lv : mm_V} {st rest as : List Value} {h : mm_H} {n : Nat}
/-- a contract of a method that never throws -/
theorem mC_met (call : mC Z M' d' mc' ms' as h Q') (hno : ∀ ci h', ¬ Q' (.inr ci) h') : Met Z.1 M'.1 (mm_w M') (mm_rm d' mc' ms') (mm_Pc Z as h) (mm_Qc Z Q') mc' ms' (fun q => mm_B Z ≤ q) := by
  unfold mC vx_Met at call
  refine MetFree.mono call (fun _ _ h => h) (fun _ _ _ _ _ h => h) (fun a0 s0 o0 t0 _ hq => ?_)
  rcases hq with hq | ⟨q, -, E, ce, L, ⟨ci, h', -, hq', -⟩, -⟩
  · exact hq
  · exact absurd hq' (hno ci h')
theorem mg_special {idx o : Nat} (C : mm_Ok Z M X) (hc : mm_cd M pc = some (.invokespecial idx, npc, a, b, wd)) (hw : wd = .methodLink M.1.cls idx M'.1) (hcal : mm_cal M' n) (hin : Cond.instanceMethod M'.1 ∈ mm_tbl) (hini : M'.1.name = "<init>") (hret : M'.2.2.2.1 = none)
    (hRm : mt_R X = mm_rm d mc ms) (hdd : d' + 1 ≤ d) (hL : M'.2.2.1 ≤ 21) (hk : k + mc' ≤ mc) (hw' : w + ms' ≤ ms) (call : mC Z M' d' mc' ms' (.ref o :: as) h Q') (hno : ∀ ci h', ¬ Q' (.inr ci) h') (hn : as.length = n) (hst : st = as.reverse ++ .ref o :: rest) (hrest : (rest.map fun v => v.category).sum ≤ 8)
    (kk : ∀ v h', Q' (.inl v) h' → mG Z M X (k + mc') (w + ms') mc ms Q (npc, lv, v.toList ++ rest, h')) : mG Z M X k w mc ms Q (pc, lv, st, h) := by
  intro H locs ls hR hS hl
  obtain ⟨hx, hb, hml, hr, hhs, hown, hnm, hlk, hts, hK, hB1, hB2, hg⟩ := C
  obtain ⟨hd, hp, hbr, hwd⟩ := hg _ _ _ _ _ _ hc
  simp only [mm_len] at hp hd
  subst hp hw hst
  have hlink := mm_wd hts hwd (by simp)
  have cb := mm_cb (M := M) (d := d) (d' := d') (mc' := mc') (ms' := ms') hts hcal hlink hRm hdd hL
  rw [hret] at cb
  have hr0 := va_runI (H := H) (locs := locs) (cells := k) (slots := w) (p := mt_p X) (e := mt_e X) (below := mt_b X) (meth := mt_h X) (g := F0 (mt_m X) pc ls (List.map (mm_tr Z) (as.reverse ++ .ref o :: rest))) (Ts := mm_tbl) (nL := M.2.2.1) (As := as.map (mm_tr Z)) (b := mm_ad Z o) (n := n) (rest := rest.map (mm_tr Z)) ⟨hx, hb, hml, hown, hts⟩ (mC_met call hno) ⟨cb, hini, hts _ hin⟩ ⟨mm_blind Z _ h, fun U hU hW => ⟨rfl, by rw [hU]; exact hR, hK.warm hW⟩⟩ rfl (by rw [List.length_map]; exact hn) hl.1 (by
    show (List.map (mm_tr Z) (as.reverse ++ .ref o :: rest)) = _
    rw [List.map_append, List.map_reverse, List.map_cons, mm_tr_ref]) (lv_room (by rw [mm_cats]; exact hrest)) hd (by rw [hRm]; exact ⟨hk, hw'⟩)
  exact mm_after (Q' := Q') hR hS hl (fun T hT Y => Or.inl (hr0 T hT Y)) (fun ci h' hq => absurd hq (hno ci h')) kk
theorem mg_specialN {idx o : Nat} {host : String} (C : mm_Ok Z M X) (hc : mm_cd M pc = some (.invokespecial idx, npc, a, b, wd)) (hw : (M.1.cls, idx, M'.1, host) ∈ mm_nl) (hcal : mm_cal M' n) (hin : Cond.instanceMethod M'.1 ∈ mm_tbl) (hini : M'.1.name = "<init>") (hret : M'.2.2.2.1 = none)
    (hRm : mt_R X = mm_rm d mc ms) (hdd : d' + 1 ≤ d) (hL : M'.2.2.1 ≤ 21) (hk : k + mc' ≤ mc) (hw' : w + ms' ≤ ms) (call : mC Z M' d' mc' ms' (.ref o :: as) h Q') (hno : ∀ ci h', ¬ Q' (.inr ci) h') (hn : as.length = n) (hst : st = as.reverse ++ .ref o :: rest) (hrest : (rest.map fun v => v.category).sum ≤ 8)
    (kk : ∀ v h', Q' (.inl v) h' → mG Z M X (k + mc') (w + ms') mc ms Q (npc, lv, v.toList ++ rest, h')) : mG Z M X k w mc ms Q (pc, lv, st, h) := by
  intro H locs ls hR hS hl
  obtain ⟨hx, hb, hml, hr, hhs, hown, hnm, hlk, hts, hK, hB1, hB2, hg⟩ := C
  obtain ⟨hd, hp, hbr, hwd⟩ := hg _ _ _ _ _ _ hc
  simp only [mm_len] at hp hd
  subst hp hst
  have hnl := hK.2.2.2.2.2.2.2.2.1 _ hw
  have hwM : mm_w M' = Cond.code M'.1 M'.2.1 M'.2.2.1 none :: mm_tbl := by rw [mm_cal_w hcal, hret]
  have cb : va_CN (mt_R X) (mt_s X) (mt_a X) M.1.cls idx M'.1 host M'.2.1 M'.2.2.1 none (mm_w M') (mm_rm d' mc' ms') mc' ms' n := va_cnB n hts (mm_cal_good hcal) hwM rfl rfl hnl (hts _ hcal.2.2.1) ⟨hcal.2.2.2.1, hcal.2.2.2.2.1, hcal.2.2.2.2.2⟩ (by
    rw [hRm]
    exact ⟨hdd, by show 8 + (M'.2.2.1 + 11) + 40 * d' ≤ 40 * d; omega⟩)
  have hr0 := va_runIN (H := H) (locs := locs) (cells := k) (slots := w) (p := mt_p X) (e := mt_e X) (below := mt_b X) (meth := mt_h X) (g := F0 (mt_m X) pc ls (List.map (mm_tr Z) (as.reverse ++ .ref o :: rest))) (Ts := mm_tbl) (nL := M.2.2.1) (As := as.map (mm_tr Z)) (b := mm_ad Z o) (n := n) (rest := rest.map (mm_tr Z)) ⟨hx, hb, hml, hown, hts⟩ (mC_met call hno) ⟨cb, hini, hts _ hin⟩ ⟨mm_blind Z _ h, fun U hU hW => ⟨rfl, by rw [hU]; exact hR, hK.warm hW⟩⟩ rfl (by rw [List.length_map]; exact hn) hl.1 (by
    show (List.map (mm_tr Z) (as.reverse ++ .ref o :: rest)) = _
    rw [List.map_append, List.map_reverse, List.map_cons, mm_tr_ref]) (lv_room (by rw [mm_cats]; exact hrest)) hd (by rw [hRm]; exact ⟨hk, hw'⟩)
  exact mm_after (Q' := Q') hR hS hl (fun T hT Y => Or.inl (hr0 T hT Y)) (fun ci h' hq => absurd hq (hno ci h')) kk
/-- the words of a callee with handlers -/
def mm_calW (M : mm_M) (n : Nat) : Prop := mm_w M = Cond.codeWith M.1 M.2.1 M.2.2.1 M.2.2.2.1 M.2.2.2.2.1 :: mm_tbl ∧ Cond.codeWith M.1 M.2.1 M.2.2.1 M.2.2.2.1 M.2.2.2.2.1 ∈ mm_tbl ∧ Cond.initialized M.1.cls ∈ mm_tbl ∧ M.1.cls ≠ "java/lang/invoke/MethodHandle" ∧ M.1.cls ≠ "java/lang/invoke/VarHandle" ∧ (parseMethodDescriptor M.1.desc).map (fun d => d.parameters.length) = some n
theorem mm_calW_good {M : mm_M} {n : Nat} (h : mm_calW M n) : GoodIn mm_tbl (mm_w M) := by
  rw [h.1]
  intro w hw
  rcases List.mem_cons.mp hw with h1 | h1
  · rw [h1]; exact mm_tbl_good _ h.2.1
  · exact mm_tbl_good w h1
theorem mg_staticW {idx : Nat} (C : mm_Ok Z M X) (hc : mm_cd M pc = some (.invokestatic idx, npc, a, b, wd)) (hw : wd = .methodLink M.1.cls idx M'.1) (hcal : mm_calW M' n) (hsta : Cond.static M'.1 ∈ mm_tbl)
    (hRm : mt_R X = mm_rm d mc ms) (hdd : d' + 1 ≤ d) (hL : M'.2.2.1 ≤ 21) (hk : k + mc' ≤ mc) (hw' : w + ms' ≤ ms) (call : mC Z M' d' mc' ms' as h Q') (hn : as.length = n) (hst : st = as.reverse ++ rest) (hrest : (rest.map fun v => v.category).sum ≤ 8)
    (kx : ∀ ci h', Q' (.inr ci) h' → mX Z M X (k + mc') (w + ms') mc ms Q pc lv h' ci)
    (kk : ∀ v h', Q' (.inl v) h' → mG Z M X (k + mc') (w + ms') mc ms Q (npc, lv, v.toList ++ rest, h')) : mG Z M X k w mc ms Q (pc, lv, st, h) := by
  intro H locs ls hR hS hl
  obtain ⟨hx, hb, hml, hr, hhs, hown, hnm, hlk, hts, hK, hB1, hB2, hg⟩ := C
  obtain ⟨hd, hp, hbr, hwd⟩ := hg _ _ _ _ _ _ hc
  simp only [mm_len] at hp hd
  subst hp hw hst
  have hlink := mm_wd hts hwd (by simp)
  have cw : vx_CSW (mt_R X) (mt_s X) (mt_a X) M.1.cls idx M'.1 M'.2.1 M'.2.2.1 M'.2.2.2.1 M'.2.2.2.2.1 (mm_w M') (mm_rm d' mc' ms') mc' ms' n := by
    refine ⟨⟨rfl, rfl, by rw [hRm]; exact hdd, by rw [hRm]; show 8 + (M'.2.2.1 + 11) + 40 * d' ≤ 40 * d; omega, pay_in hts (mm_calW_good hcal), by rw [hcal.1]; exact List.mem_cons_self⟩, hts _ hcal.2.1, hts _ hcal.2.2.1, ⟨hcal.2.2.2.1, hcal.2.2.2.2.1⟩, fun sig h9 => ?_, hlink, hts _ hsta⟩
    have h2 := hcal.2.2.2.2.2
    rw [h9] at h2
    exact (Option.some.inj h2).symm
  refine mm_after hR hS hl (vx_runSX (Ts := mm_tbl) (nL := M.2.2.1) (As := as.map (mm_tr Z)) (n := n) ⟨hx, hb, hml, hown, hts⟩ call cw ⟨mm_blind Z _ h, fun U hU hW => ⟨rfl, by rw [hU]; exact hR, hK.warm hW⟩⟩ rfl (by rw [List.length_map]; exact hn) hl.1 ?_ (lv_room (by rw [mm_cats]; exact hrest)) hd ?_) kx kk
  · show (List.map (mm_tr Z) (as.reverse ++ rest)) = _
    rw [List.map_append, List.map_reverse]
  · rw [hRm]; exact ⟨hk, hw'⟩
theorem mg_virtualW {idx o ci : Nat} {fs : List Value} {N : Nat} {T : u_T} (C : mm_Ok Z M X) (hc : mm_cd M pc = some (.invokevirtual idx, npc, a, b, wd)) (hw : wd = .methodLink M.1.cls idx M'.1) (hcal : mm_calW M' n) (hin : Cond.instanceMethod M'.1 ∈ mm_tbl) (hse : Cond.selects M'.1.cls M'.1 M'.1 ∈ mm_tbl)
    (hRm : mt_R X = mm_rm d mc ms) (hdd : d' + 1 ≤ d) (hL : M'.2.2.1 ≤ 21) (hk : k + mc' ≤ mc) (hw' : w + ms' ≤ ms) (call : mC Z M' d' mc' ms' (.ref o :: as) h Q') (hn : as.length = n) (hst : st = as.reverse ++ .ref o :: rest) (hrest : (rest.map fun v => v.category).sum ≤ 8)
    (ho : h.2 o = some (.inr (ci, fs))) (hcl : mm_cl[ci]? = some (M'.1.cls, T, N))
    (kx : ∀ ci h', Q' (.inr ci) h' → mX Z M X (k + mc') (w + ms') mc ms Q pc lv h' ci)
    (kk : ∀ v h', Q' (.inl v) h' → mG Z M X (k + mc') (w + ms') mc ms Q (npc, lv, v.toList ++ rest, h')) : mG Z M X k w mc ms Q (pc, lv, st, h) := by
  intro H locs ls hR hS hl
  obtain ⟨hx, hb, hml, hr, hhs, hown, hnm, hlk, hts, hK, hB1, hB2, hg⟩ := C
  obtain ⟨hd, hp, hbr, hwd⟩ := hg _ _ _ _ _ _ hc
  simp only [mm_len] at hp hd
  subst hp hw hst
  have hlink := mm_wd hts hwd (by simp)
  have he := (hR.2.2.2 o _ ho).2
  have ead := mm_stk hR ho
  have cw : vx_CVW (mt_R X) (mt_s X) (mt_a X) M.1.cls M'.1.cls idx M'.1 M'.2.1 M'.2.2.1 M'.2.2.2.1 M'.2.2.2.2.1 (mm_w M') (mm_rm d' mc' ms') mc' ms' n := by
    refine ⟨⟨rfl, rfl, by rw [hRm]; exact hdd, by rw [hRm]; show 8 + (M'.2.2.1 + 11) + 40 * d' ≤ 40 * d; omega, pay_in hts (mm_calW_good hcal), by rw [hcal.1]; exact List.mem_cons_self⟩, hts _ hcal.2.1, hts _ hcal.2.2.1, ⟨hcal.2.2.2.1, hcal.2.2.2.2.1⟩, fun sig h9 => ?_, hlink, hts _ hin, hts _ hse⟩
    have h2 := hcal.2.2.2.2.2
    rw [h9] at h2
    exact (Option.some.inj h2).symm
  refine mm_after hR hS hl (vx_runVX (Ts := mm_tbl) (nL := M.2.2.1) (C := M'.1.cls) (As := as.map (mm_tr Z)) (b := mm_ad Z o) (n := n) ⟨hx, hb, hml, hown, hts⟩ call cw ⟨mm_blind Z _ h, ?_, fun U hU hW => ⟨rfl, by rw [hU]; exact hR, hK.warm hW⟩⟩ rfl (by rw [List.length_map]; exact hn) hl.1 ?_ (lv_room (by rw [mm_cats]; exact hrest)) hd ?_) kx kk
  · rw [ead]
    exact va_recv hK.1 (mm_one he) (q0 := 0) hcl rfl
  · show (List.map (mm_tr Z) (as.reverse ++ .ref o :: rest)) = _
    rw [List.map_append, List.map_reverse, List.map_cons, mm_tr_ref]
  · rw [hRm]; exact ⟨hk, hw'⟩
/-- caught by the handler at hp, whose first instruction stores the reference: nobody reads it -/
theorem mx_catch {ci hp nhp a' b' tyi i0 : Nat} {wd' : Cond} {E nm : String} {j : Fin 4} (C : mm_Ok Z M X) (hE : mm_ex[ci]? = some E) (pre suf : List (Nat × Nat × Nat × Nat)) (hsplit : M.2.2.2.2.1 = pre ++ (i0, b, hp, tyi) :: suf)
    (hpass : ∀ r ∈ pre, ¬ (r.1 ≤ pc ∧ pc < r.2.1) ∨ (r.2.2.2 ≠ 0 ∧ ∃ n1 : String, Cond.classLink M.1.cls r.2.2.2 n1 ∈ mm_tbl ∧ (E, n1) ∈ mm_nc)) (hcov : i0 ≤ pc ∧ pc < b) (h0 : tyi ≠ 0) (hlink : Cond.classLink M.1.cls tyi nm ∈ mm_tbl) (hca : (E, nm) ∈ mm_ca)
    (hc : mm_cd M hp = some (.astore_n j, nhp, a', b', wd')) (hj : (j : Nat) < M.2.2.1) (kk : mG Z M X k w mc ms Q (nhp, lv.filter (fun q => decide (q.1 < (j : Nat)) && !(q.1 + 1 == (j : Nat) && q.2.category == 2)) ++ lv.filter (fun q => decide ((j : Nat) < q.1)), [], h)) : mX Z M X k w mc ms Q pc lv h ci := by
  intro H locs ls rst q ce E' hR hS hl hE' hce hcv hcl
  cases hE.symm.trans hE'
  obtain ⟨hx, hb, hml, hr, hhs, hown, hnm, hlk, hts, hK, hB1, hB2, hg⟩ := C
  obtain ⟨hd, hpp, hbr, hwd⟩ := hg _ _ _ _ _ _ hc
  simp only [mm_len] at hpp hd
  subst hpp
  rw [hsplit] at hhs
  obtain ⟨pre', t1, e1, e2, e3⟩ := List.map_eq_append_iff.mp hhs
  obtain ⟨x, suf', e4, e5, e6⟩ := List.map_eq_cons_iff.mp e3
  subst e4
  have ex : x.startPc = i0 ∧ x.endPc = b ∧ x.handlerPc = hp ∧ x.catchType = tyi := by
    have := e5
    simp only [Prod.mk.injEq] at this
    exact this
  refine vx_catch (own := M.1.cls) (name := nm) (E := E) hown pre' x suf' e1 (fun z hz => ?_) ?_ (by rw [ex.2.2.2]; exact h0) (by rw [ex.2.2.2]; exact hts _ hlink) (va_Nw.use rfl (hK.2.2.2.2.2.2.2.2.2.1 _ hca)) hce hcv hcl ?_
  · have hz' : (z.startPc, z.endPc, z.handlerPc, z.catchType) ∈ pre := by rw [← e2]; exact List.mem_map.mpr ⟨z, hz, rfl⟩
    rcases hpass _ hz' with h1 | ⟨h1, n1, h2, h3⟩
    · refine Or.inl ?_
      have : ¬ (z.startPc ≤ pc ∧ pc < z.endPc) := h1
      simp only [covers, Bool.and_eq_false_iff, decide_eq_false_iff_not]
      omega
    · exact Or.inr ⟨h1, n1, hts _ h2, hK.2.2.2.2.2.2.2.2.2.2.2.1 _ h3⟩
  · simp only [covers, Bool.and_eq_true, decide_eq_true_eq]
    rw [ex.1, ex.2.1]; exact hcov
  · rw [ex.2.2.1]
    refine lv_astore_n hx hb hd rfl hl hj rfl (fun ls' hl' => kk H locs ls' hR hS (mm_has_sub hl' ?_))
    intro q0 hq0
    refine List.mem_cons_of_mem _ ?_
    obtain ⟨r, hr9, rfl⟩ := List.mem_map.mp hq0
    have hs1 : (r.1, mm_tr Z r.2) ∈ (mm_s1 lv j (.int 0)).map (fun q => (q.1, mm_tr Z q.2)) := by
      refine List.mem_map.mpr ⟨r, ?_, rfl⟩
      unfold mm_s1
      rcases List.mem_append.mp hr9 with h9 | h9
      · exact List.mem_append_left _ h9
      · exact List.mem_append_right _ (List.mem_cons_of_mem _ h9)
    have h8 := mm_s1_sub Z lv j (.int 0) _ hs1
    rcases List.mem_cons.mp h8 with h7 | h7
    · exfalso
      have hj9 : r.1 = (j : Nat) := congrArg Prod.fst h7
      rcases List.mem_append.mp hr9 with h9 | h9
      · have := (List.mem_filter.mp h9).2
        simp only [Bool.and_eq_true, decide_eq_true_eq] at this
        omega
      · have := (List.mem_filter.mp h9).2
        simp only [decide_eq_true_eq] at this
        omega
    · exact h7
/-- caught by the handler at hp, whose first instruction stores the reference: nobody reads it -/
theorem mx_catchW {ci hp nhp a' b' tyi i0 : Nat} {wd' : Cond} {E nm : String} {j : Nat} (C : mm_Ok Z M X) (hE : mm_ex[ci]? = some E) (pre suf : List (Nat × Nat × Nat × Nat)) (hsplit : M.2.2.2.2.1 = pre ++ (i0, b, hp, tyi) :: suf)
    (hpass : ∀ r ∈ pre, ¬ (r.1 ≤ pc ∧ pc < r.2.1) ∨ (r.2.2.2 ≠ 0 ∧ ∃ n1 : String, Cond.classLink M.1.cls r.2.2.2 n1 ∈ mm_tbl ∧ (E, n1) ∈ mm_nc)) (hcov : i0 ≤ pc ∧ pc < b) (h0 : tyi ≠ 0) (hlink : Cond.classLink M.1.cls tyi nm ∈ mm_tbl) (hca : (E, nm) ∈ mm_ca)
    (hc : mm_cd M hp = some (.astore j, nhp, a', b', wd')) (hj : j < M.2.2.1) (kk : mG Z M X k w mc ms Q (nhp, lv.filter (fun q => decide (q.1 < j) && !(q.1 + 1 == j && q.2.category == 2)) ++ lv.filter (fun q => decide (j < q.1)), [], h)) : mX Z M X k w mc ms Q pc lv h ci := by
  intro H locs ls rst q ce E' hR hS hl hE' hce hcv hcl
  cases hE.symm.trans hE'
  obtain ⟨hx, hb, hml, hr, hhs, hown, hnm, hlk, hts, hK, hB1, hB2, hg⟩ := C
  obtain ⟨hd, hpp, hbr, hwd⟩ := hg _ _ _ _ _ _ hc
  simp only [mm_len] at hpp hd
  subst hpp
  rw [hsplit] at hhs
  obtain ⟨pre', t1, e1, e2, e3⟩ := List.map_eq_append_iff.mp hhs
  obtain ⟨x, suf', e4, e5, e6⟩ := List.map_eq_cons_iff.mp e3
  subst e4
  have ex : x.startPc = i0 ∧ x.endPc = b ∧ x.handlerPc = hp ∧ x.catchType = tyi := by
    have := e5
    simp only [Prod.mk.injEq] at this
    exact this
  refine vx_catch (own := M.1.cls) (name := nm) (E := E) hown pre' x suf' e1 (fun z hz => ?_) ?_ (by rw [ex.2.2.2]; exact h0) (by rw [ex.2.2.2]; exact hts _ hlink) (va_Nw.use rfl (hK.2.2.2.2.2.2.2.2.2.1 _ hca)) hce hcv hcl ?_
  · have hz' : (z.startPc, z.endPc, z.handlerPc, z.catchType) ∈ pre := by rw [← e2]; exact List.mem_map.mpr ⟨z, hz, rfl⟩
    rcases hpass _ hz' with h1 | ⟨h1, n1, h2, h3⟩
    · refine Or.inl ?_
      have : ¬ (z.startPc ≤ pc ∧ pc < z.endPc) := h1
      simp only [covers, Bool.and_eq_false_iff, decide_eq_false_iff_not]
      omega
    · exact Or.inr ⟨h1, n1, hts _ h2, hK.2.2.2.2.2.2.2.2.2.2.2.1 _ h3⟩
  · simp only [covers, Bool.and_eq_true, decide_eq_true_eq]
    rw [ex.1, ex.2.1]; exact hcov
  · rw [ex.2.2.1]
    refine lv_astore hx hb hd hl hj rfl (fun ls' hl' => kk H locs ls' hR hS (mm_has_sub hl' ?_))
    intro q0 hq0
    refine List.mem_cons_of_mem _ ?_
    obtain ⟨r, hr9, rfl⟩ := List.mem_map.mp hq0
    have hs1 : (r.1, mm_tr Z r.2) ∈ (mm_s1 lv j (.int 0)).map (fun q => (q.1, mm_tr Z q.2)) := by
      refine List.mem_map.mpr ⟨r, ?_, rfl⟩
      unfold mm_s1
      rcases List.mem_append.mp hr9 with h9 | h9
      · exact List.mem_append_left _ h9
      · exact List.mem_append_right _ (List.mem_cons_of_mem _ h9)
    have h8 := mm_s1_sub Z lv j (.int 0) _ hs1
    rcases List.mem_cons.mp h8 with h7 | h7
    · exfalso
      have hj9 : r.1 = j := congrArg Prod.fst h7
      rcases List.mem_append.mp hr9 with h9 | h9
      · have := (List.mem_filter.mp h9).2
        simp only [Bool.and_eq_true, decide_eq_true_eq] at this
        omega
      · have := (List.mem_filter.mp h9).2
        simp only [decide_eq_true_eq] at this
        omega
    · exact h7
end MD
