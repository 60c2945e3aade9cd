/-! 'throw new E("text")' where E hands the text to its superclass by any pool entry (the kit's row asks entry 7 of every class; java.util.NoSuchElementException has 13). After the library's ctorThrowS and the kit's vx_throwS. -/
def mm_at0 (E : String) (ix : Nat) (bx : ByteArray) (Y : String) (names : List String) : List Cond :=
  Bundle.throwableAtoms ++ Bundle.throwableSAtoms ++ Bundle.passSAtoms E Y ix bx ++ Bundle.chainSAtoms Y names ++
  [.instantiable E 6, .castable E E, .selects E Bundle.tFill0 Bundle.tFill0, .selects E Bundle.tFill Bundle.tFill,
   .lays E Bundle.tN "cause" "Ljava/lang/Throwable;", .lays E Bundle.tN "stackTrace" Bundle.steD, .lays E Bundle.tN "suppressedExceptions" Bundle.listD, .lays E Bundle.tN "detailMessage" "Ljava/lang/String;",
   .isRef (.static Bundle.tN "UNASSIGNED_STACK" Bundle.steD), .isRef (.static Bundle.tN "SUPPRESSED_SENTINEL" Bundle.listD),
   .fieldLink Bundle.tN 198 Bundle.tN "backtrace" "Ljava/lang/Object;", .lays Bundle.tN Bundle.tN "backtrace" "Ljava/lang/Object;", .lays E Bundle.tN "backtrace" "Ljava/lang/Object;"]
def mm_atoms (own : String) (ic : Nat) (E : String) (ix : Nat) (bx : ByteArray) (Y : String) (names : List String) : List Cond := mm_at0 E ix bx Y names ++ [.methodLink own ic (Bundle.initS E)]
section MT
variable {p : Program} {l : Launch} {e : Env} {R : Room} {s : State} {m₀ : MethodId} {args : Array Value} {below : List Frame} {meth : Method} {c : Code} {T9 : State} {locs : List Loc} {cells slots : Nat}
set_option maxHeartbeats 2000000 in
theorem mm_ctor (X : Stand p l e R s m₀ args below meth c T9 locs cells slots) (hexec : p.tables.exec = Jvm.exec) (htr : e.platform.stackTraces = false) {own cls Yc : String} {names : List String} {ic ix : Nat} {bx : ByteArray}
    (hown : s.vm.findClass own = some m₀.cls) (hcls : Bundle.fit cls = true) (hY : Bundle.fit Yc = true) (hnames : ∀ n ∈ names, Bundle.fit n = true)
    (x0 : decode bx 0 = .ok (.aload_n 0, 1)) (x1 : decode bx 1 = .ok (.aload_n 1, 1)) (x2 : decode bx 2 = .ok (.invokespecial ix, 3)) (x5 : decode bx 5 = .ok (.return_, 1))
    (h : ∀ a ∈ mm_atoms own ic cls ix bx Yc names, a.before args s = true)
    (hlocs : ∀ x ∈ locs, ∀ cell, s.heap[x.base]? = some cell → cell.vm.isStatics = false)
    {a : Addr} {cX : ClassId} {kX : Class} (hfoundX : s.vm.findClass cls = some cX) (hkX : s.vm.classes[cX]? = some kX) (hcell : T9.heap[a]? = some (freshCell cX kX)) (hnew : s.heap.size ≤ a)
    {msg : Value} (hmsg : msg.isRef = true)
    {g : JFrame} (hg : g.method = m₀) (hsize : g.locals.size = c.maxLocals) (hlocked : g.locked = none) (hentered : g.entered = []) {rest : List Value} (hstack : g.stack = msg :: .ref a :: .ref a :: rest)
    (hd6 : decode c.code g.pc = .ok (.invokespecial ic, 3)) (hd9 : decode c.code (g.pc + 3) = .ok (.athrow, 1)) (hout : ∀ x ∈ c.exceptionTable.toList, covers x (g.pc + 3) = false)
    (hRframes : names.length + 4 < R.frames) (hRlocals : 2 * g.monitorRoom + ((Value.ref a :: rest).map fun v => v.category).sum + (13 * (names.length + 2) + 42) ≤ R.locals) (hlocks : meth.locks = false) :
    ∃ U : State, Steps p.tables e below (T9.setTop g) U ∧ U.status = .running ∧ Ended U below (.threw a) ∧ s.WarmedH U.vm ∧ s.sameButNew ({ U with vm := s.vm } : State) locs cells slots ∧
      ∃ ce, U.heap[a]? = some ce ∧ ce.vm = .none ∧ s.vm.findClass cls = some ce.cls := by
  have howns : e.platform.frameOwnsMonitors = true := by rw [X.admits.platform]
  have hfin : e.platform.finalization = false := by rw [X.admits.platform]
  have hpl : e.platform.magicAccessors = ({} : Platform).magicAccessors := by rw [X.admits.platform]
  have a' : ∀ x, x ∈ mm_atoms own ic cls ix bx Yc names → x.holds args s none s [] = true := fun x hx => h x hx
  obtain ⟨T, Z0, L, -, Y⟩ := ThrowableC.of_atoms (args := args) howns hfin hpl (fun x hx => h x (by simp [mm_atoms, mm_at0, hx]))
  obtain ⟨Z, M, LZ, LM, hnZ⟩ := Init0T.ofS_atoms (args := args) hpl L Y (fun x hx => h x (by simp [mm_atoms, mm_at0, hx]))
  obtain ⟨P0, L0, hP0m, hP0s⟩ := PassC.ofS_atoms (args := args) (s := s) hpl (X := cls) (Y := Yc) (Bundle.fit_spec hcls).1 (Bundle.fit_spec hY).2 x0 x1 x2 x5 (fun x hx => h x (by simp [mm_atoms, mm_at0, hx]))
  obtain ⟨P1, Ps, hlen, L1, hL, hP1m, hlink1, hlink⟩ := Bundle.chainS (args := args) hpl hnZ names Yc hY hnames (fun x hx => h x (by simp [mm_atoms, mm_at0, hx]))
  have hsup : P0.sup = P1.m := Option.some.inj (hP0s.symm.trans hP1m)
  have hfound : s.vm.findClass cls = some P0.m.cls := findClass_of_methodNamed hP0m
  cases Option.some.inj (hfoundX.symm.trans hfound)
  obtain ⟨c1, kX', hc1, hk, hord, -, -, hn6⟩ := Cond.instantiable_spec (a' (.instantiable cls 6) (by simp [mm_atoms, mm_at0]))
  cases Option.some.inj (hc1.symm.trans hfound)
  cases Option.some.inj (hkX.symm.trans hk)
  have hsel0 : selectMethod e.platform s.vm P0.m.cls T.fill0 = .method T.fill0 := by
    obtain ⟨c2, r2, m2, q1, q2, q3, q4, -⟩ := Cond.selects_spec (a' (.selects cls Bundle.tFill0 Bundle.tFill0) (by simp [mm_atoms, mm_at0]))
    cases Option.some.inj (q1.symm.trans hfound)
    cases Option.some.inj (q2.symm.trans (State.methodFound?_of_named Y.fill0 (by decide)))
    cases Option.some.inj (q3.symm.trans Y.fill0)
    rw [Launch.admits_selectMethod X.admits]; exact q4
  have hselF : selectMethod e.platform s.vm P0.m.cls T.fill = .method T.fill := by
    obtain ⟨c2, r2, m2, q1, q2, q3, q4, -⟩ := Cond.selects_spec (a' (.selects cls Bundle.tFill Bundle.tFill) (by simp [mm_atoms, mm_at0]))
    cases Option.some.inj (q1.symm.trans hfound)
    cases Option.some.inj (q2.symm.trans (State.methodFound?_of_named Y.fill (by decide)))
    cases Option.some.inj (q3.symm.trans Y.fill)
    rw [Launch.admits_selectMethod X.admits]; exact q4
  obtain ⟨cellS0, hcS0, hiss⟩ := Y.statics
  obtain ⟨u0, hu0⟩ := Cond.staticRefV Y.unassigned L.unassignedStatic L.statics hcS0 hiss (a' (.isRef (.static Bundle.tN "UNASSIGNED_STACK" Bundle.steD)) (by simp [mm_atoms, mm_at0]))
  obtain ⟨sen, hsen⟩ := Cond.staticRefV Y.sentinel L.sentinelStatic L.statics hcS0 hiss (a' (.isRef (.static Bundle.tN "SUPPRESSED_SENTINEL" Bundle.listD)) (by simp [mm_atoms, mm_at0]))
  obtain ⟨ci198, i198, fB, hk198, hg198, ha198, hsB, -, hnB, htB, hffB⟩ := Cond.ownField (t := .object "java/lang/Object") Y.found L.cls (by decide +kernel) (a' (.fieldLink Bundle.tN 198 Bundle.tN "backtrace" "Ljava/lang/Object;") (by simp [mm_atoms, mm_at0])) (a' (.lays Bundle.tN Bundle.tN "backtrace" "Ljava/lang/Object;") (by simp [mm_atoms, mm_at0])) e.platform hpl
  obtain ⟨cellS, hcS', heS, -, hkeep⟩ := X.same.2.2.2.2.2 T.aS cellS0 hcS0
  have hcellS : T9.heap[T.aS]? = some cellS := hcS'
  have hout' : ∀ i, (⟨T.aS, i⟩ : Loc) ∉ locs := fun i hmem => by
    have := hlocs _ hmem cellS0 hcS0
    rw [hiss] at this; cases this
  have hknownS : cellS.vm ≠ .unknown := by
    rw [heS]; intro hu
    rw [show cellS0.vm = .unknown from hu] at hiss
    cases hiss
  have hneS : T.aS ≠ a := Nat.ne_of_lt (Nat.lt_of_lt_of_le (Array.getElem?_eq_some_iff.mp hcS0).1 hnew)
  obtain ⟨iM, hffM⟩ := Y.msg
  obtain ⟨tyC, dC, hdC, hdnC⟩ := Cond.laysAt hfound hk Y.cause (a' (.lays cls Bundle.tN "cause" "Ljava/lang/Throwable;") (by simp [mm_atoms, mm_at0]))
  obtain ⟨tyS, dS, hdS, hdnS⟩ := Cond.laysAt hfound hk Y.stack (a' (.lays cls Bundle.tN "stackTrace" Bundle.steD) (by simp [mm_atoms, mm_at0]))
  obtain ⟨tyP, dP, hdP, hdnP⟩ := Cond.laysAt hfound hk Y.supp (a' (.lays cls Bundle.tN "suppressedExceptions" Bundle.listD) (by simp [mm_atoms, mm_at0]))
  obtain ⟨tyM, dM, hdM, hdnM⟩ := Cond.laysAt hfound hk hffM (a' (.lays cls Bundle.tN "detailMessage" "Ljava/lang/String;") (by simp [mm_atoms, mm_at0]))
  obtain ⟨tyB, dB, hdB, hdnB⟩ := Cond.laysAt hfound hk hffB (a' (.lays cls Bundle.tN "backtrace" "Ljava/lang/Object;") (by simp [mm_atoms, mm_at0]))
  have bC := Cond.laysApart hdB hdC hdnB hdnC (by rw [hnB, Y.causeName]; decide)
  have bS := Cond.laysApart hdB hdS hdnB hdnS (by rw [hnB, Y.stackName]; decide)
  have bP := Cond.laysApart hdB hdP hdnB hdnP (by rw [hnB, Y.suppName]; decide)
  have hskip : SkipFacts T e.platform s (fun u => u) u0 ((preparedCellV T.toThrowableT (freshCell P0.m.cls kX) a u0 sen).withEntry T9.cur) :=
    ⟨{ ci198 := ci198, i198 := i198, fBack := fB }, ⟨hk198, hg198, ha198, hsB⟩, by
      have := fresh_default (c := P0.m.cls) tyB
      rw [htB] at this
      simpa [preparedCellV, Cell.setSlot, Cell.withEntry, Array.getElem?_setIfInBounds, bC, bS, bP, bC.symm, bS.symm, bP.symm, defaultValue] using this, fun _ _ => rfl⟩
  obtain ⟨tm, methC, cdC, kC, vm₁, hnC, -, -, -, -, -, -, -, hW₁, st1⟩ := Steps.initColdS (tb := p.tables) (e := e) (below := below) (s := s) (U := T9) X.here hexec X.warmed hpl hown (t := Bundle.initS cls) rfl rfl (Bundle.fit_spec hcls).2
    (a' (.methodLink own ic (Bundle.initS cls)) (by simp [mm_atoms, mm_at0])) (h (.instanceMethod (Bundle.initS cls)) (by simp [mm_atoms, mm_at0, Bundle.passSAtoms])) (bytes := bx) (maxL := 2) (h (.code (Bundle.initS cls) bx 2 none) (by simp [mm_atoms, mm_at0, Bundle.passSAtoms]))
    (f := g) hg (a := a) (msg := msg) (rest := .ref a :: rest) hstack hd6
  cases Option.some.inj (hnC.symm.trans hP0m)
  have X₁ := X.noted hW₁
  obtain ⟨vm₂, X₂, st2⟩ := X₁.ctorMessageOffV hexec (g := { g with stack := .ref a :: rest }) hg hsize T L Z LZ M LM (P0 :: P1 :: Ps)
    (fun P hP => by
      rcases List.mem_cons.mp hP with rfl | hP
      · exact L0
      · rcases List.mem_cons.mp hP with rfl | hP
        · exact L1
        · exact hL P hP) ⟨hsup, hlink1, hlink⟩ (u0 := u0) (sen := sen) (self := a) hmsg (cell := freshCell P0.m.cls kX) (cellS := cellS)
    hcell (fun _ => by simp) (by simp) rfl rfl hsel0 hselF hcellS hneS hknownS (by rw [hkeep _ (hout' _)]; exact hu0) (by rw [hkeep _ (hout' _)]; exact hsen)
    (Takes.of_laid hk hord tyC (by rw [Y.causeType]; rfl)) (Takes.of_laid hk hord tyS (by rw [Y.stackType]; exact fits_refV_array _ u0)) (Takes.of_laid hk hord tyP (by rw [Y.suppType]; exact fits_refV_object _ sen))
    (Takes.of_laid hk hord tyM (by rw [Y.msgType]; exact fits_refV_object _ ⟨msg, hmsg⟩)) Y.objLocals hskip htr [] hd6
    (by simp only [List.length_cons, hlen]; omega) (by simp only [List.length_cons, hlen]; exact hRlocals)
  obtain ⟨hwalk, hrun, hended, hWU, hsame⟩ := X₂.athrowLeaves hexec (g := { g with stack := .ref a :: rest, pc := g.pc + 3 }) hg hlocked hentered hout (a := a) (rest := rest) rfl hd9 hlocks
  have hlt : a < ((T9.setVm vm₁).setVm vm₂).heap.size := (Array.getElem?_eq_some_iff.mp hcell).1
  have hU := heapAt_setCell_self (s := (T9.setVm vm₁).setVm vm₂) (plainBareV T.toThrowableT (freshCell P0.m.cls kX) a u0 sen msg) hlt
  refine ⟨_, st1 _ (fun acts => ?_), hrun, hended, hWU, hsame.weaken (fun y hy hlt' => ?_) (Nat.le_refl _) (Nat.le_refl _), _, hU, rfl, hfound⟩
  · rw [doInvoke_state]
    exact st2 _ hwalk
  · rcases List.mem_append.mp hy with h1 | h1
    · exact h1
    · exfalso
      have hb : y.base = a := by
        simp only [List.mem_cons, List.not_mem_nil, or_false] at h1
        rcases h1 with rfl | rfl | rfl | rfl | rfl <;> rfl
      rw [hb] at hlt'
      exact Nat.not_lt.mpr hnew hlt'
end MT
/-- a word that the tables hand on, or one of those that are carried beside them -/
def mm_okb (w : Cond) : Bool := (decide (w ∈ lw_tbl) && goodWord w) || mm_ca.any (fun r => decide (w = .castable r.1 r.2)) || mm_de.any (fun x => decide (w = .declares x))
theorem mm_okb_at {Z : mm_Z} {s : State} {args : Array Value} {w : Cond} (hts : ∀ w ∈ mm_tbl, w.before args s = true) (hK : mm_K Z s) (h : mm_okb w = true) : w.before args s = true ∧ vx_ot w = true := by
  unfold mm_okb at h
  simp only [Bool.or_eq_true, Bool.and_eq_true, decide_eq_true_eq, List.any_eq_true] at h
  rcases h with (⟨h1, h2⟩ | ⟨r, hr, rfl⟩) | ⟨x, hx, rfl⟩
  · exact ⟨hts w (List.mem_filter.mpr ⟨h1, h2⟩), by unfold vx_ot; rw [h2]; simp⟩
  · exact ⟨va_Nw.use rfl (hK.2.2.2.2.2.2.2.2.2.1 r hr), rfl⟩
  · exact ⟨va_Nw.use rfl (hK.2.2.2.2.2.2.2.2.2.2.1 x hx), rfl⟩
section MU
variable {Z : mm_Z} {M : mm_M} {X : mm_T} {k w mc ms d : Nat} {Q : mm_O → mm_H → Prop} {pc pc1 pc2 pc3 pc4 pc5 a0 b0 a1 b1 a2 b2 a3 b3 a4 b4 : Nat} {wd1 wd2 wd4 : Cond} {lv : mm_V} {st : List Value} {h : mm_H}
set_option maxHeartbeats 2000000 in
theorem mg_throw {E tx Yc : String} {names : List String} {ik ic is i ix ci : Nat} {bx : ByteArray} {il : Instr} (C : mm_Ok Z M X) (hc0 : mm_cd M pc = some (.new ik, pc1, a0, b0, .classLink M.1.cls ik E)) (hc1 : mm_cd M pc1 = some (.dup, pc2, a1, b1, wd1)) (hc2 : mm_cd M pc2 = some (il, pc3, a2, b2, wd2)) (hil : il = .ldc is ∨ il = .ldc_w is) (hc3 : mm_cd M pc3 = some (.invokespecial ic, pc4, a3, b3, .methodLink M.1.cls ic (Bundle.initS E))) (hc4 : mm_cd M pc4 = some (.athrow, pc5, a4, b4, wd4))
    (hsr : (M.1.cls, is, tx, i) ∈ mm_sr) (hE : mm_ex[ci]? = some E) (hcls : Bundle.fit E = true) (hY : Bundle.fit Yc = true) (hnames : ∀ n ∈ names, Bundle.fit n = true)
    (x0 : decode bx 0 = .ok (.aload_n 0, 1)) (x1 : decode bx 1 = .ok (.aload_n 1, 1)) (x2 : decode bx 2 = .ok (.invokespecial ix, 3)) (x5 : decode bx 5 = .ok (.return_, 1))
    (hini : Cond.initialized E ∈ mm_tbl) (hat : ((mm_at0 E ix bx Yc names).filter vx_no).all mm_okb = true)
    (hRm : mt_R X = mm_rm d mc ms) (hd : names.length + 5 ≤ d) (hnl : names.length ≤ 3) (hk : k + 1 ≤ mc) (hw : w + 6 ≤ ms) (hrest : (st.map fun v => v.category).sum ≤ 8) (hout : M.2.2.2.2.1.all (fun r => !(decide (r.1 ≤ pc4) && decide (pc4 < r.2.1))) = true) (hn : h.1 < 1000000)
    (hq : ∀ n', h.1 ≤ n' → n' ≤ h.1 + 1 → Q (.inr ci) (n', h.2)) : mG Z M X k w mc ms Q (pc, lv, st, h) := by
  intro H locs ls hR hS hl T hT Y0
  have hR : mm_Rel Z h H := hR
  obtain ⟨hx, hb, hml, hr, hhs, hown, hnm, hlk, hts, hK, hB1, hB2, hg⟩ := C
  obtain ⟨e0, p0, -, w0⟩ := hg _ _ _ _ _ _ hc0
  obtain ⟨e1, p1, -, -⟩ := hg _ _ _ _ _ _ hc1
  obtain ⟨e2, p2, -, -⟩ := hg _ _ _ _ _ _ hc2
  obtain ⟨e3, p3, -, w3⟩ := hg _ _ _ _ _ _ hc3
  obtain ⟨e4, p4, -, -⟩ := hg _ _ _ _ _ _ hc4
  simp only [mm_len] at e0 p0 e1 p1 e3 p3 e4 p4
  subst p0 p1
  have hkk := mm_wd hts w0 (by simp)
  have hml3 := mm_wd hts w3 (by simp)
  have htr : (mt_e X).platform.stackTraces = false := (show (mt_e X).platform.stackTraces = Z.1.stackTraces by rw [Y0.admits.platform]).trans hK.2.1
  have Yr := vx_rebase Y0 (R' := { frames := (mt_R X).frames, locals := (mt_R X).locals, cells := 1, slots := 6 }) (Nat.le_refl _) (Nat.le_refl _) (by rw [hRm]; exact hk) (by rw [hRm]; exact hw)
  obtain ⟨s', hA⟩ : ∃ z, z = (T.setVm (mt_s X).vm).setFrames (.invoking (mt_m X) (mt_a X) :: mt_b X) := ⟨_, rfl⟩
  rw [← hA] at Yr
  have hvm : s'.vm = (mt_s X).vm := by rw [hA]; rfl
  have hhp : s'.heap = H := by rw [hA]; exact hT
  have hW0 : (mt_s X).WarmedH s'.vm := by rw [hvm]; exact State.WarmedH.refl _
  have hK' : mm_K Z s' := hK.same hvm
  have hgood : ∀ w9 ∈ (mm_atoms M.1.cls ic E ix bx Yc names).filter vx_no, w9.before (mt_a X) s' = true := by
    intro w9 hw9
    obtain ⟨h1, h2⟩ := List.mem_filter.mp hw9
    rcases List.mem_append.mp h1 with h1 | h1
    · have h3 := mm_okb_at hts hK (List.all_eq_true.mp hat w9 (List.mem_filter.mpr ⟨h1, h2⟩))
      exact vx_ot_at hW0 hvm.symm h3.2 h3.1
    · rw [List.mem_singleton.mp h1]
      exact vx_ot_at hW0 hvm.symm rfl hml3
  have hkeep : ∀ a : Nat, a < Z.2.2.1.size → ¬ mm_B Z ≤ a → H[a]? = Z.2.2.1[a]? := fun a _ h2 => hR.2.2.1 a (Nat.lt_of_not_le h2)
  have hU' : vx_Zq Bundle.tN "UNASSIGNED_STACK" Bundle.steD (fun q => mm_B Z ≤ q) s' s'.heap := by rw [hhp]; exact hK'.2.2.2.2.1.kept hkeep
  have hN' : vx_Zq Bundle.tN "SUPPRESSED_SENTINEL" Bundle.listD (fun q => mm_B Z ≤ q) s' s'.heap := by rw [hhp]; exact hK'.2.2.2.2.2.1.kept hkeep
  have hall : ∀ w9 ∈ mm_atoms M.1.cls ic E ix bx Yc names, w9.before (mt_a X) s' = true := vx_own hgood (vx_isRefq hU'.1) (vx_isRefq hN'.1) hU'.2.word hN'.2.word
  have hk' : (Cond.classLink M.1.cls ik E).before (mt_a X) s' = true := vx_ot_at hW0 hvm.symm rfl hkk
  have hini' : (Cond.initialized E).before (mt_a X) s' = true := vx_ot_at hW0 hvm.symm rfl (hts _ hini)
  have hown' : s'.vm.findClass M.1.cls = some (mt_m X).cls := by rw [hvm]; exact hown
  have hins : (Cond.instantiable E 6).before (mt_a X) s' = true := hall _ (by simp [mm_atoms, mm_at0])
  obtain ⟨vm₁, cX, kX, hfX, hkX, -, -, X₁, st1⟩ := Yr.newCold hx (own := M.1.cls) (C := E) (index := ik) (n := 6) hown' hk' hins hini'
    (g := F0 (mt_m X) pc ls (st.map (mm_tr Z))) rfl (by rw [hb]; exact e0) (Nat.le_refl _) (Nat.le_refl _)
  generalize hT1 : (T.setVm vm₁).pushCell { cls := cX, slots := kX.instanceTypes.map defaultValue, vm := .none } = T1 at X₁ st1
  have hcat : (Value.ref T.heap.size).category = 1 := rfl
  have hcellA : T1.heap[T.heap.size]? = some (freshCell cX kX) := by rw [← hT1]; exact State.heap_pushCell_size _ _
  have d3' : decode (mt_c X).code (pc + 3) = .ok (.dup, 1) := by rw [hb]; exact e1
  have hstr' : vk_R M.1.cls is tx (Z.2.2.2.1 i) s' := hK'.2.2.2.1 _ hsr
  have hcs : ((st.map (mm_tr Z)).map fun v => v.category).sum ≤ 8 := by rw [mm_cats]; exact hrest
  obtain ⟨U, hsteps, hrun, hend, hW, hsame, ce, hce, hcv, hcn⟩ := mm_ctor X₁ hx htr (own := M.1.cls) (cls := E) (names := names) (ic := ic) hown' hcls hY hnames x0 x1 x2 x5 hall (fun x hx => nomatch hx) hfX hkX hcellA (by rw [hhp, hT]; exact Nat.le_refl _) (msg := .ref (Z.2.2.2.1 i)) rfl
    (g := { method := mt_m X, pc := pc3, locals := ls, stack := .ref (Z.2.2.2.1 i) :: .ref T.heap.size :: .ref T.heap.size :: st.map (mm_tr Z), locked := none }) rfl (by rw [hml]; exact hl.1) rfl rfl (rest := st.map (mm_tr Z)) rfl
    (by rw [hb]; exact e3) (by rw [hb]; subst p3; exact e4) (fun x hx9 => by
      rw [← hhs] at hout
      have h1 := List.all_eq_true.mp hout _ (List.mem_map.mpr ⟨x, hx9, rfl⟩)
      have h2 : (!covers x pc4) = true := h1
      have h4 : pc4 = pc3 + 3 := p3
      show covers x (pc3 + 3) = false
      rw [← h4]
      cases h3 : covers x pc4 with
      | false => rfl
      | true => rw [h3] at h2; cases h2) (by rw [hRm]; show names.length + 4 < d; omega) (by
      rw [hRm]
      simp only [List.map_cons, List.sum_cons, hcat]
      show 2 * 0 + _ + _ ≤ 40 * d
      omega) hlk
  obtain ⟨f1, f2⟩ := vx_frame hsame
  rw [hhp] at f1 f2
  have hWs : (mt_s X).WarmedH U.vm := State.WarmedH.trans hW0 hW
  have hcl : (mt_s X).vm.findClass E = some ce.cls := by rw [hvm] at hcn; exact hcn
  have hsz : U.heap.size ≤ H.size + 1 := by
    have := hsame.2.2.1
    rw [hhp] at this
    exact this
  have hallS : (mt_s X).sameButNew ({ U with vm := (mt_s X).vm } : State) locs mc ms := by
    subst hA
    obtain ⟨g1, g2⟩ := hsame
    rw [State.setFrames_setFrames] at g1
    have h2 : (T.setVm (mt_s X).vm).sameButNew ({ U with vm := (mt_s X).vm } : State) [] (0 + 1) (0 + 6) := ⟨g1, g2⟩
    have h3 := Y0.same.trans h2
    rw [List.append_nil] at h3
    exact h3.mono hk hw
  have hRg := hR.grown f1 (by have := hR.1; omega) (fun q hq9 => f2 q hq9 (fun z hz => nomatch hz))
  refine ⟨U, ?_, .threw T.heap.size, hrun, hend, Or.inr ⟨T.heap.size, rfl, E, ce, locs, ⟨ci, _, hE, hq (U.heap.size - mm_B Z) (by have := hR.1; omega) (by have := hR.1; omega), hRg⟩, hce, hcv, hcl, hWs, hallS, hS.2.2⟩⟩
  refine st1 _ ?_
  show Steps (mt_p X).tables (mt_e X) (mt_b X) (T1.setTop { method := mt_m X, pc := pc + 3, locals := ls, stack := .ref T.heap.size :: st.map (mm_tr Z), locked := none }) _
  jvm_step X₁.here [X₁.here.top, hx, d3', Value.category]
  rcases hil with rfl | rfl
  · simp only [mm_len] at e2 p2
    subst p2
    exact X₁.ldcString hx (own := M.1.cls) (text := tx) (index := is) (a := Z.2.2.2.1 i) hown' hstr'.1 hstr'.2
      (g := { method := mt_m X, pc := pc + 3 + 1, locals := ls, stack := .ref T.heap.size :: .ref T.heap.size :: st.map (mm_tr Z), locked := none }) rfl (by rw [hb]; exact e2) _ hsteps
  · simp only [mm_len] at e2 p2
    subst p2
    exact X₁.ldcStringW hx (own := M.1.cls) (text := tx) (index := is) (a := Z.2.2.2.1 i) hown' hstr'.1 hstr'.2
      (g := { method := mt_m X, pc := pc + 3 + 1, locals := ls, stack := .ref T.heap.size :: .ref T.heap.size :: st.map (mm_tr Z), locked := none }) rfl (by rw [hb]; exact e2) _ hsteps
end MU
/-! the two exceptions of the class -/
set_option maxRecDepth 100000 in
theorem mt_iae : ((mm_at0 "java/lang/IllegalArgumentException" 7 ⟨#[0x2a, 0x2b, 0xb7, 0x00, 0x07, 0xb1]⟩ "java/lang/RuntimeException" ["java/lang/Exception"]).filter vx_no).all mm_okb = true := by decide +kernel
set_option maxRecDepth 100000 in
theorem mt_nse : ((mm_at0 "java/util/NoSuchElementException" 13 ⟨#[0x2a, 0x2b, 0xb7, 0x00, 0x0d, 0xb1]⟩ "java/lang/RuntimeException" ["java/lang/Exception"]).filter vx_no).all mm_okb = true := by decide +kernel
