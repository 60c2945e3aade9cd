/- needs: 15.acall 15.fun 15.hctor 17.c4 17.c5 18.law9 19.bworld -/
/-! THE LAW AS A FUNCTION of the script; the claim out of it -/
def c00 : mm_C := fun _ => none
def mkL (c : mm_C) (m : Nat) : Option mm_C := some (cup c m (.inl (.long, 1, .inr (.inl fun _ => 0))))
def fLaw (N : Nat) (xs : Nat → Int32) (L : Nat) : mR Int32 :=
  Option.bind (mkO c00 0 11) fun c1 => Option.bind (nX11_init 1 0 c1) fun c2 => Option.bind (mkO c2 419 12) fun c3 => Option.bind (nX12_init 420 419 c3) fun c4 => Option.bind (mkL c4 453) fun c5 => lL_law_23 N xs L 600 0 419 453 0 c5
theorem mL_new {Z : mm_Z} {M : mm_M} {X : mm_T} {k w mc ms d n : Nat} {Q : mm_O → mm_H → Prop} {pc npc a b : Nat} {wd : Cond} {lv : mm_V} {st : List Value} {c : mm_C} {β : Type} {ov : β → Option Value} {f : mm_C → mR β} (C : mm_Ok Z M X) (hc : mm_cd M pc = some (.newarray .long, npc, a, b, wd)) (hRm : mt_R X = mm_rm d mc ms) (hk : k + 1 ≤ mc) (hw' : w + 1 ≤ ms) (hn : n < 1000000) (hf : hO 0 ov n (Option.bind (mkL c n) f) Q) (kk : ∀ c', hO 0 ov n (f c') Q → mG Z M X (k + 1) (w + 1) mc ms Q (npc, lv, .ref n :: st, (n + 1, c'))) : mG Z M X k w mc ms Q (pc, lv, .int 1 :: st, (n, c)) := by
  refine mg_newarray (ty := .long) (ti := 1) (N := 1) (z := (1, .inr (.inl fun _ => 0))) C hc rfl rfl wo_arlong (fun cl => rfl) (fun U cl h => h) (by decide) (by decide) (by decide) hRm hk hw' hn (kk _ hf)
set_option maxRecDepth 100000 in
theorem law_body {Z : mm_Z} {X : mm_T} {d N : Nat} {Q : mm_O → mm_H → Prop} {xs : Nat → Int32} {L : Nat} (hX : scX Z X xs L) (hQ : ∀ o a b c, Q o (a, c) → Q o (b, c)) (C : mm_Ok Z qL_law X) (hRm : mt_R X = mm_rm d 600000 7000000) (hd : 200 ≤ d) (hf : hO 0 ovI 0 (fLaw N xs L) Q) : mG Z qL_law X 0 0 600000 7000000 Q (0, [(0, .ref 4000000)], [], (0, c00)) := by
  unfold fLaw at hf
  obtain ⟨c1, e1, hf1⟩ := hO_bind hf
  obtain ⟨c2, e2, hf2⟩ := hO_bind hf1
  obtain ⟨c3, e3, hf3⟩ := hO_bind hf2
  obtain ⟨c4, e4, hf4⟩ := hO_bind hf3
  cases e1
  refine mg_new (fs := dfl 11) (N := 13) C rfl rfl rfl wo_in11 wo_it11 dfl_11 hRm (by omega) (by omega) (by omega) ?_
  show mG _ _ _ 1 13 _ _ _ (_, _, _, (1, cup c00 0 (.inr (11, dfl 11))))
  refine mg_dup C rfl rfl ?_
  refine mg_special (M' := qX11_init) (as := []) (d' := d - 1) (mc' := 418) (ms' := 17680) (Q' := mB (1 + 418) (nX11_init 1 0 (cup c00 0 (.inr (11, dfl 11))))) C rfl rfl aX11_init iX11_init rfl rfl hRm (by omega) (by decide) (by omega) (by omega) (uX11_init (by omega) (by omega) (by rw [e2]; rfl)) (by rintro ci h' ⟨c', -, q, -⟩; cases q) rfl rfl (Nat.le_of_ble_eq_true rfl) ?_
  rintro u h' ⟨c', q1, q2, rfl⟩
  cases q2
  cases e2.symm.trans q1
  clear q1
  show mG _ _ _ 419 17693 _ _ _ (_, _, [.ref 0], (419, c2))
  refine mg_astore_n (lv' := [(0, .ref 4000000), (1, .ref 0)]) C rfl (Nat.le_of_ble_eq_true rfl) rfl ?_
  cases e3
  refine mg_new (fs := dfl 12) (N := 61) C rfl rfl rfl wo_in12 wo_it12 dfl_12 hRm (by omega) (by omega) (by show 419 < 1000000; omega) ?_
  show mG _ _ _ 420 17754 _ _ _ (_, _, [.ref 419], (420, cup c2 419 (.inr (12, dfl 12))))
  refine mg_dup C rfl rfl ?_
  refine mg_special (M' := qX12_init) (as := []) (d' := d - 1) (mc' := 33) (ms' := 6425) (Q' := mB (420 + 33) (nX12_init 420 419 (cup c2 419 (.inr (12, dfl 12))))) C rfl rfl aX12_init iX12_init rfl rfl hRm (by omega) (by decide) (by omega) (by omega) (uX12_init (by omega) (by omega) (by rw [e4]; rfl)) (by rintro ci h' ⟨c', -, q, -⟩; cases q) rfl rfl (Nat.le_of_ble_eq_true rfl) ?_
  rintro u h' ⟨c', q1, q2, rfl⟩
  cases q2
  cases e4.symm.trans q1
  clear q1
  show mG _ _ _ 453 24179 _ _ _ (_, _, [.ref 419], (453, c4))
  refine mg_astore_n (lv' := [(0, .ref 4000000), (1, .ref 0), (2, .ref 419)]) C rfl (Nat.le_of_ble_eq_true rfl) rfl ?_
  refine mg_iconst (v := 1) C rfl (by decide) ?_
  refine mL_new C rfl hRm (by omega) (by omega) (by omega) (hO_any hQ hf4) (fun c5 hf => ?_)
  show mG _ _ _ 454 24180 _ _ _ (_, _, [.ref 453], (454, c5))
  refine mg_astore_n (lv' := [(0, .ref 4000000), (1, .ref 0), (2, .ref 419), (3, .ref 453)]) C rfl (Nat.le_of_ble_eq_true rfl) rfl ?_
  refine mg_iconst (v := 0) C rfl (by decide) ?_
  refine mg_istore (lv' := [(0, .ref 4000000), (1, .ref 0), (2, .ref 419), (3, .ref 453), (4, .int 0)]) C rfl (Nat.le_of_ble_eq_true rfl) rfl ?_
  exact WL_law_23 hX hQ C hRm hd 600 (by omega) (by omega) (by omega) (hO_any hQ hf)
/-- the claim out of the function -/
theorem law_start {p : Program} {e : Env} {s : State} {m : MethodId} {below : List Frame} {meth : Method} {c : Code} (l : Launch) (hl : l.stackTraces = false) {b L : Nat} {xs : Nat → Int32} (hx : p.tables.exec = Jvm.exec) (hb : c.code = code) (hr : meth.sig.returnType = ret) (hml : c.maxLocals = 8) (hown : s.vm.findClass RL = some m.cls) (hts : ∀ w ∈ lw_tbl, w.before #[Value.ref b] s = true) (hX : va_X b L xs s s.heap) (hbl : b < s.heap.size) (hlk : meth.locks = false) (hgv : (Jvm.Cond.and given_1 narrow_1).before #[Value.ref b] s = true) (hex : c.exceptionTable.toList.map (fun h => (h.startPc, h.endPc, h.handlerPc, h.catchType)) = []) (hnm : meth.name = "law")
    (hlaw : ∃ N c', fLaw N xs L = some (.inl 1, c')) : ∀ T : State, T.heap = s.heap → Stand p l e room_1 s m #[Value.ref b] below meth c T [] 0 0 → ∃ t, Steps p.tables e below (T.setTop (entryFrame m ([Value.ref b] : List Value).toArray 8)) t ∧ ∃ o, t.status = .running ∧ Ended t below o ∧ o = .returned (some (.int 1)) ∧ Framed s o t [] 601024 7293034 := by
  intro T hT Y
  obtain ⟨⟨l', D, H0, ad, f⟩, rfl, rfl, hb3, hK⟩ := ww_world (p := p) (m := m) (meth := meth) (c := c) (b := b) (L := L) (xs := xs) l hl hts (flat_of_before _ hgv)
  obtain ⟨N, c', hlaw⟩ := hlaw
  have hroom : s.hasRoom e.platform (mm_rm 2000 600000 7000000) = true := by
    have h := Y.room
    have er : room_1 = ({ frames := 2048, cells := 601024, slots := 7293034, locals := 84000 } : Room) := rfl
    rw [er] at h
    simp only [State.hasRoom, Bool.and_eq_true, decide_eq_true_eq] at h ⊢
    obtain ⟨⟨⟨⟨h1, h2, h3, h4, h5, h6⟩, h7⟩, h8⟩, h9⟩ := h
    exact ⟨⟨⟨⟨by omega, by omega, by omega, by omega, by omega, h6⟩, by omega⟩, by omega⟩, h9⟩
  have Y' : Stand p l' e (mm_rm 2000 600000 7000000) s m #[Value.ref b] below meth c T [] 0 0 := ⟨Y.admits, Y.cas, Y.clock, Y.frames, hroom, Y.hears, Y.method, Y.code, Y.here, Y.tail, Y.warmed, Y.limits, Y.bytes, Y.same⟩
  have hb3 : ad 3000000 = b := hb3
  have C : mm_Ok (l', D, s.heap, ad, f) qL_law (p, e, mm_rm 2000 600000 7000000, s, m, #[Value.ref b], below, meth, c) := ⟨hx, hb, hml, hr, hex, hown, hnm, hlk, fun w hw => hts w (mm_tbl_in hw), hK, fun q _ => rfl, Nat.le_refl _, gL_law⟩
  have hsc : scX (l', D, s.heap, ad, f) (p, e, mm_rm 2000 600000 7000000, s, m, #[Value.ref b], below, meth, c) xs L := ⟨by show va_X (ad 3000000) L xs s s.heap; rw [hb3]; exact hX, by show ad 3000000 < s.heap.size; rw [hb3]; exact hbl, Nat.le_refl _⟩
  have hG := law_body (N := N) (Q := fun o _ => o = .inl (some (.int 1))) hsc (fun _ _ _ _ h => h) C rfl (by omega) ⟨_, _, hlaw, fun _ _ _ => rfl⟩
  have hR : mm_Rel (l', D, s.heap, ad, f) (0, c00) s.heap := ⟨rfl, Nat.zero_le _, fun q _ => rfl, fun k e9 h9 => by cases h9⟩
  have hl0 := lv_entry [Value.ref b] (n := 8) (Nat.le_of_ble_eq_true rfl)
  have hls : lv_has ((entryFrame m ([Value.ref b] : List Value).toArray 8).locals) 8 (([(0, .ref 4000000)] : mm_V).map fun q => (q.1, mm_tr (l', D, s.heap, ad, f) q.2)) := by
    have e9 : mm_tr (l', D, s.heap, ad, f) (.ref 4000000) = .ref b := by
      rw [mm_tr_ref, sc_ad]
      show Value.ref (ad 3000000) = _
      rw [hb3]
    show lv_has _ 8 [(0, mm_tr (l', D, s.heap, ad, f) (.ref 4000000))]
    rw [e9]
    rw [lg_entry_eq]
    exact hl0
  have hW := hG s.heap [] _ hR va_S.rf hls
  obtain ⟨t, a1, o, b1, b2, b3⟩ := hW T hT Y'
  rw [lg_entry_eq] at a1 ⊢
  refine ⟨t, a1, o, b1, b2, ?_⟩
  rcases b3 with ⟨⟨v, h9, hv, hq, -⟩, L9, hL9, hfree⟩ | ⟨q, rfl, E, ce, L9, ⟨ci, h9, -, hq, -⟩, -⟩
  · subst hv
    have hv1 : v = some (.int 1) := by
      have : (Sum.inl v : mm_O) = .inl (some (.int 1)) := hq
      simpa using this
    subst hv1
    refine ⟨rfl, hL9.1, hL9.2.1, ?_⟩
    obtain ⟨g1, g2, g3, g4, g5, g6⟩ := hL9.2.2
    refine ⟨g1, g2, Nat.le_trans g3 (Nat.add_le_add_left (by decide) _), g4, Nat.le_trans g5 (by decide), fun a cl ha => ?_⟩
    obtain ⟨cl', q1, q2, q3, q4⟩ := g6 a cl ha
    refine ⟨cl', q1, q2, q3, fun i _ => q4 i fun hm => ?_⟩
    have h1 := hfree _ hm
    have h2 : a < s.heap.size := (Array.getElem?_eq_some_iff.mp ha).1
    exact absurd h1 (Nat.not_le.mpr h2)
  · cases hq
