theorem mm_narrow {Z : mm_Z} {ty : FieldType} {v : Value} (h : narrow ty v = v) : narrow ty (mm_tr Z v) = mm_tr Z v := by
  cases v with
  | ref k => cases ty <;> rfl
  | _ => exact h
theorem mm_fits {Z : mm_Z} {ty : FieldType} {v : Value} (h : fits ty v = true) : fits ty (mm_tr Z v) = true := by
  cases v with
  | ref k => cases ty <;> first | rfl | exact h
  | _ => exact h
theorem mm_one {D : va_G} {cl : List vw_C} {q : Nat × va_E} {H : Heap} (h : va_at D cl q H) : va_P D cl [q] H := fun k q' hk => by
  have hz : k < 1 := (List.getElem?_eq_some_iff.mp hk).1
  rw [show k = 0 by omega] at hk
  cases hk
  exact h
theorem mm_tysat (Z : mm_Z) {i : Nat} {ty : FieldType} (h : mm_types[i]? = some ty) : (mm_tys Z)[i]? = some (Z.2.2.2.2 ty, ty) := by
  unfold mm_tys
  rw [List.getElem?_map, h]
  rfl
section MH
variable {Z : mm_Z} {M : mm_M} {X : mm_T} {k w mc ms : Nat} {Q : mm_O → mm_H → Prop} {pc npc a b : Nat} {wd : Cond} {lv : mm_V} {st : List Value} {h : mm_H}
theorem mm_stk {o : Nat} {H : Heap} {e : mm_E} (hR : mm_Rel Z h H) (hh : h.2 o = some e) : mm_ad Z o = mm_B Z + o := mm_ad_lt Z (Nat.lt_of_lt_of_le (hR.2.2.2 o e hh).1 hR.2.1)
theorem mm_wd {s : State} {args : Array Value} (hts : ∀ w ∈ mm_tbl, w.before args s = true) (h : wd = .tt ∨ wd ∈ mm_tbl) (hne : wd ≠ .tt) : wd.before args s = true := by
  rcases h with h | h
  · exact absurd h hne
  · exact hts _ h
theorem mg_getfield {idx o N : Nat} {Cn : String} {T : u_T} {fs : List Value} {v : Value} (C : mm_Ok Z M X) (hc : mm_cd M pc = some (.getfield idx, npc, a, b, wd)) (hcl : mm_cl[a]? = some (Cn, T, N)) (hw : wd = .fieldLink M.1.cls idx (T b).1 (T b).2.1 (T b).2.2.1) (hbN : b < N) (hh : h.2 o = some (.inr (a, fs))) (hv : fs[b]? = some v)
    (kk : mG Z M X k w mc ms Q (npc, lv, v :: st, h)) : mG Z M X k w mc ms Q (pc, lv, .ref o :: st, h) := by
  intro H locs ls hR hS hl
  obtain ⟨hx, hb, hml, hr, hhs, hown, hnm, hlk, hts, hK, hB1, hB2, hg⟩ := C
  obtain ⟨hd, hp, hbr, hwd⟩ := hg _ _ _ _ _ _ hc
  simp only [mm_len] at hp hd
  subst hp
  subst hw
  have hlink := mm_wd hts hwd (by simp)
  have he := (hR.2.2.2 o _ hh).2
  show W _ _ _ _ _ _ _ _ _ _ _ _ _ _ _ (F0 _ pc ls (.ref (mm_ad Z o) :: st.map (mm_tr Z)))
  rw [mm_stk hR hh]
  exact va_get hx hb hts (mm_cls hcl).1 hown hK.1 (mm_one he) 0 rfl hcl b hbN hlink (fun _ h9 => h9) (v := mm_tr Z v) (by rw [List.getElem?_map, hv]; rfl) hd (kk H locs ls hR hS hl)
theorem mg_putfield {idx o N : Nat} {Cn : String} {T : u_T} {fs : List Value} {v : Value} (C : mm_Ok Z M X) (hc : mm_cd M pc = some (.putfield idx, npc, a, b, wd)) (hcl : mm_cl[a]? = some (Cn, T, N)) (hw : wd = .fieldLink M.1.cls idx (T b).1 (T b).2.1 (T b).2.2.1) (hbN : b < N) (hfin : (T b).2.2.2 = false) (hh : h.2 o = some (.inr (a, fs))) (hlf : b < fs.length) (hn : narrow (mm_ty a b) v = v) (hf : fits (mm_ty a b) v = true)
    (kk : mG Z M X k w mc ms Q (npc, lv, st, mm_up h o (.inr (a, fs.set b v)))) : mG Z M X k w mc ms Q (pc, lv, v :: .ref o :: st, h) := by
  intro H locs ls hR hS hl
  obtain ⟨hx, hb, hml, hr, hhs, hown, hnm, hlk, hts, hK, hB1, hB2, hg⟩ := C
  obtain ⟨hd, hp, hbr, hwd⟩ := hg _ _ _ _ _ _ hc
  simp only [mm_len] at hp hd
  subst hp
  subst hw
  have hlink := mm_wd hts hwd (by simp)
  have he := (hR.2.2.2 o _ hh).2
  show W _ _ _ _ _ _ _ _ _ _ _ _ _ _ _ (F0 _ pc ls (mm_tr Z v :: .ref (mm_ad Z o) :: st.map (mm_tr Z)))
  rw [mm_stk hR hh]
  have hap := va_apart (own := M.1.cls) hts (mm_cls hcl).1 (mm_ty a) (mm_cls hcl).2.1 (mm_cls hcl).2.2 hK.1 hcl
  obtain ⟨r, h1, cell, q1, q2, q3, q4⟩ := he
  have hrr : r = (Cn, T, N) := Option.some.inj (h1.symm.trans hcl)
  subst hrr
  obtain ⟨hSl, hfc, kC, hkC, hkind⟩ := hK.1.1 a _ hcl
  obtain ⟨cf, kf, fi, f, hi, hsl⟩ := hSl b hbN
  have hlay := hts _ ((mm_cls hcl).1 _ (u_in_lay hbN))
  have hst := (u_facts hfc hkC (u_lays hts (mm_cls hcl).1 hbN) hi).1
  unfold u_lay at hlay
  rw [if_neg (by rw [hfin]; decide)] at hlay
  have h6 := u_store hfc hkC hkind hlay hi ((mm_cls hcl).2.1 b hbN) (mm_narrow (Z := Z) hn) (mm_fits (Z := Z) hf)
  refine W.putK hx hb (f := f) ⟨hown, hlink, ⟨_, _, _, hi⟩, hst⟩ (by rw [q2]; exact h6) q1 q3 (by rw [hsl]; exact k2_hasslot (q4 b hbN)) rfl rfl hd fun H' e1 e2 e3 => ?_
  rw [hsl] at e1 ⊢
  refine kk H' _ ls (hR.put hh e2 e3 ⟨_, hcl, t_OB.to (V := updV (vp_V (fs.map (mm_tr Z))) b (mm_tr Z v)) ⟨_, e1, q2, q3, t_set q4 hap hbN (mm_tr Z v)⟩ (fun j _ => ?_)⟩) (hS.put e2 e3 (Nat.le_add_right _ _)) hl
  rw [vp_updV_set (by rw [List.length_map]; exact hlf), List.map_set]
theorem mg_putfinal {idx o N : Nat} {Cn : String} {T : u_T} {fs : List Value} {v : Value} (C : mm_Ok Z M X) (hc : mm_cd M pc = some (.putfield idx, npc, a, b, wd)) (hcl : mm_cl[a]? = some (Cn, T, N)) (hw : wd = .fieldLink M.1.cls idx (T b).1 (T b).2.1 (T b).2.2.1) (hbN : b < N) (hfin : (T b).2.2.2 = true) (hini : M.1.name = "<init>") (hdecl : (T b).1 = M.1.cls) (hh : h.2 o = some (.inr (a, fs))) (hlf : b < fs.length) (hn : narrow (mm_ty a b) v = v) (hf : fits (mm_ty a b) v = true)
    (kk : mG Z M X k w mc ms Q (npc, lv, st, mm_up h o (.inr (a, fs.set b v)))) : mG Z M X k w mc ms Q (pc, lv, v :: .ref o :: st, h) := by
  intro H locs ls hR hS hl
  obtain ⟨hx, hb, hml, hr, hhs, hown, hnm, hlk, hts, hK, hB1, hB2, hg⟩ := C
  obtain ⟨hd, hp, hbr, hwd⟩ := hg _ _ _ _ _ _ hc
  simp only [mm_len] at hp hd
  subst hp
  subst hw
  have hlink := mm_wd hts hwd (by simp)
  have he := (hR.2.2.2 o _ hh).2
  show W _ _ _ _ _ _ _ _ _ _ _ _ _ _ _ (F0 _ pc ls (mm_tr Z v :: .ref (mm_ad Z o) :: st.map (mm_tr Z)))
  rw [mm_stk hR hh]
  have hap := va_apart (own := M.1.cls) hts (mm_cls hcl).1 (mm_ty a) (mm_cls hcl).2.1 (mm_cls hcl).2.2 hK.1 hcl
  obtain ⟨r, h1, cell, q1, q2, q3, q4⟩ := he
  have hrr : r = (Cn, T, N) := Option.some.inj (h1.symm.trans hcl)
  subst hrr
  obtain ⟨hSl, hfc, kC, hkC, hkind⟩ := hK.1.1 a _ hcl
  obtain ⟨cf, kf, fi, f, hi, hsl⟩ := hSl b hbN
  have hlay := hts _ ((mm_cls hcl).1 _ (u_in_lay hbN))
  have hst := (u_facts hfc hkC (u_lays hts (mm_cls hcl).1 hbN) hi).1
  unfold u_lay at hlay
  rw [if_pos hfin] at hlay
  have hcf : (mt_m X).cls = cf := by
    obtain ⟨_, _, c', _, _, _, -, -, hf', -, -, -, hown2, -⟩ := Cond.laysFinal_spec hlay
    have e1 : c' = cf := by have := hi.symm.trans hf'; simp at this; exact this.1.symm
    rw [hdecl] at hown2
    rw [← e1]; exact Option.some.inj (hown.symm.trans hown2)
  have h6 := u_fits hfc hkC hkind (Or.inr hlay) hi ((mm_cls hcl).2.1 b hbN) (mm_narrow (Z := Z) hn) (mm_fits (Z := Z) hf)
  refine W.putFinK hx hb hown hlink hi hst hcf (hnm.trans hini) (by rw [q2]; exact h6) q1 q3 (by rw [hsl]; exact k2_hasslot (q4 b hbN)) rfl rfl hd fun H' e1 e2 e3 => ?_
  rw [hsl] at e1 ⊢
  refine kk H' _ ls (hR.put hh e2 e3 ⟨_, hcl, t_OB.to (V := updV (vp_V (fs.map (mm_tr Z))) b (mm_tr Z v)) ⟨_, e1, q2, q3, t_set q4 hap hbN (mm_tr Z v)⟩ (fun j _ => ?_)⟩) (hS.put e2 e3 (Nat.le_add_right _ _)) hl
  rw [vp_updV_set (by rw [List.length_map]; exact hlf), List.map_set]
theorem mg_iaload {o n : Nat} {i : Int32} {f : Nat → Int32} (C : mm_Ok Z M X) (hc : mm_cd M pc = some (.iaload, npc, a, b, wd)) (hh : h.2 o = some (.inl (.int, n, .inl f))) (hin : vp_in i n)
    (kk : mG Z M X k w mc ms Q (npc, lv, .int (f i.toNatClampNeg) :: st, h)) : mG Z M X k w mc ms Q (pc, lv, .int i :: .ref o :: st, h) := by
  intro H locs ls hR hS hl
  obtain ⟨hx, hb, hml, hr, hhs, hown, hnm, hlk, hts, hK, hB1, hB2, hg⟩ := C
  obtain ⟨hd, hp, hbr, hwd⟩ := hg _ _ _ _ _ _ hc
  simp only [mm_len] at hp hd
  subst hp
  have he := (hR.2.2.2 o _ hh).2
  show W _ _ _ _ _ _ _ _ _ _ _ _ _ _ _ (F0 _ pc ls (.int i :: .ref (mm_ad Z o) :: st.map (mm_tr Z)))
  rw [mm_stk hR hh]
  exact va_iald hx hb hK.1 (mm_one he) 0 0 rfl (mm_tysat Z rfl) hin hd (kk H locs ls hR hS hl)
theorem mg_baload {o n : Nat} {i : Int32} {f : Nat → Int32} (C : mm_Ok Z M X) (hc : mm_cd M pc = some (.baload, npc, a, b, wd)) (hh : h.2 o = some (.inl (.byte, n, .inl f))) (hin : vp_in i n)
    (kk : mG Z M X k w mc ms Q (npc, lv, .int (f i.toNatClampNeg) :: st, h)) : mG Z M X k w mc ms Q (pc, lv, .int i :: .ref o :: st, h) := by
  intro H locs ls hR hS hl
  obtain ⟨hx, hb, hml, hr, hhs, hown, hnm, hlk, hts, hK, hB1, hB2, hg⟩ := C
  obtain ⟨hd, hp, hbr, hwd⟩ := hg _ _ _ _ _ _ hc
  simp only [mm_len] at hp hd
  subst hp
  have he := (hR.2.2.2 o _ hh).2
  show W _ _ _ _ _ _ _ _ _ _ _ _ _ _ _ (F0 _ pc ls (.int i :: .ref (mm_ad Z o) :: st.map (mm_tr Z)))
  rw [mm_stk hR hh]
  exact va_bald hx hb hK.1 (mm_one he) 0 2 rfl (mm_tysat Z rfl) hin hd (kk H locs ls hR hS hl)
theorem mg_zaload {o n : Nat} {i : Int32} {f : Nat → Int32} (C : mm_Ok Z M X) (hc : mm_cd M pc = some (.baload, npc, a, b, wd)) (hh : h.2 o = some (.inl (.boolean, n, .inl f))) (hin : vp_in i n)
    (kk : mG Z M X k w mc ms Q (npc, lv, .int (f i.toNatClampNeg) :: st, h)) : mG Z M X k w mc ms Q (pc, lv, .int i :: .ref o :: st, h) := by
  intro H locs ls hR hS hl
  obtain ⟨hx, hb, hml, hr, hhs, hown, hnm, hlk, hts, hK, hB1, hB2, hg⟩ := C
  obtain ⟨hd, hp, hbr, hwd⟩ := hg _ _ _ _ _ _ hc
  simp only [mm_len] at hp hd
  subst hp
  have he := (hR.2.2.2 o _ hh).2
  show W _ _ _ _ _ _ _ _ _ _ _ _ _ _ _ (F0 _ pc ls (.int i :: .ref (mm_ad Z o) :: st.map (mm_tr Z)))
  rw [mm_stk hR hh]
  exact va_zald hx hb hK.1 (mm_one he) 0 3 rfl (mm_tysat Z rfl) hin hd (kk H locs ls hR hS hl)
theorem mg_laload {o n : Nat} {i : Int32} {f : Nat → Int64} (C : mm_Ok Z M X) (hc : mm_cd M pc = some (.laload, npc, a, b, wd)) (hh : h.2 o = some (.inl (.long, n, .inr (.inl f)))) (hin : vp_in i n)
    (kk : mG Z M X k w mc ms Q (npc, lv, .long (f i.toNatClampNeg) :: st, h)) : mG Z M X k w mc ms Q (pc, lv, .int i :: .ref o :: st, h) := by
  intro H locs ls hR hS hl
  obtain ⟨hx, hb, hml, hr, hhs, hown, hnm, hlk, hts, hK, hB1, hB2, hg⟩ := C
  obtain ⟨hd, hp, hbr, hwd⟩ := hg _ _ _ _ _ _ hc
  simp only [mm_len] at hp hd
  subst hp
  have he := (hR.2.2.2 o _ hh).2
  show W _ _ _ _ _ _ _ _ _ _ _ _ _ _ _ (F0 _ pc ls (.int i :: .ref (mm_ad Z o) :: st.map (mm_tr Z)))
  rw [mm_stk hR hh]
  exact va_lald hx hb hK.1 (mm_one he) 0 1 rfl (mm_tysat Z rfl) hin hd (kk H locs ls hR hS hl)
theorem mg_iastore {o n : Nat} {i : Int32} {x : Int32} {f : Nat → Int32} (C : mm_Ok Z M X) (hc : mm_cd M pc = some (.iastore, npc, a, b, wd)) (hh : h.2 o = some (.inl (.int, n, .inl f))) (hin : vp_in i n)
    (kk : mG Z M X k w mc ms Q (npc, lv, st, mm_up h o (.inl (.int, n, .inl (upd f i.toNatClampNeg x))))) : mG Z M X k w mc ms Q (pc, lv, .int x :: .int i :: .ref o :: st, h) := by
  intro H locs ls hR hS hl
  obtain ⟨hx, hb, hml, hr, hhs, hown, hnm, hlk, hts, hK, hB1, hB2, hg⟩ := C
  obtain ⟨hd, hp, hbr, hwd⟩ := hg _ _ _ _ _ _ hc
  simp only [mm_len] at hp hd
  subst hp
  have he := (hR.2.2.2 o _ hh).2
  show W _ _ _ _ _ _ _ _ _ _ _ _ _ _ _ (F0 _ pc ls (.int x :: .int i :: .ref (mm_ad Z o) :: st.map (mm_tr Z)))
  rw [mm_stk hR hh]
  refine W.iast hx hb he ((hK.1.2 0 _ (mm_tysat Z rfl)).1 n (fun j => .int (f j))) (fun q => by cases q) (by show ¬ (i < 0 ∨ (arrV _ _ _).slots.size ≤ _); rw [arrV_size]; exact hin) rfl rfl hd fun H1 e1 z oq => ?_
  refine kk H1 _ ls (hR.put hh z oq ?_) (hS.put z oq (Nat.le_add_right _ _)) hl
  show H1[mm_B Z + o]? = some (vp_cell _ _)
  rw [e1]
  show some (Cell.setSlot (vp_cell (Z.2.2.2.2 .int) (n, .inl f)) _ _) = some (vp_cell (Z.2.2.2.2 .int) (n, .inl (upd f i.toNatClampNeg x)))
  rw [vp_cell_i, vp_cell_i, arrV_store]
  congr 2
  funext q
  by_cases hq : q = i.toNatClampNeg
  · subst hq
    simp [updV, upd, vp_updL, vp_nar]
    try rfl
  · simp [updV, upd, vp_updL, hq]
theorem mg_bastore {o n : Nat} {i : Int32} {x : Int32} {f : Nat → Int32} (C : mm_Ok Z M X) (hc : mm_cd M pc = some (.bastore, npc, a, b, wd)) (hh : h.2 o = some (.inl (.byte, n, .inl f))) (hin : vp_in i n)
    (kk : mG Z M X k w mc ms Q (npc, lv, st, mm_up h o (.inl (.byte, n, .inl (upd f i.toNatClampNeg (vp_nar .byte x)))))) : mG Z M X k w mc ms Q (pc, lv, .int x :: .int i :: .ref o :: st, h) := by
  intro H locs ls hR hS hl
  obtain ⟨hx, hb, hml, hr, hhs, hown, hnm, hlk, hts, hK, hB1, hB2, hg⟩ := C
  obtain ⟨hd, hp, hbr, hwd⟩ := hg _ _ _ _ _ _ hc
  simp only [mm_len] at hp hd
  subst hp
  have he := (hR.2.2.2 o _ hh).2
  show W _ _ _ _ _ _ _ _ _ _ _ _ _ _ _ (F0 _ pc ls (.int x :: .int i :: .ref (mm_ad Z o) :: st.map (mm_tr Z)))
  rw [mm_stk hR hh]
  refine W.bast hx hb he ((hK.1.2 2 _ (mm_tysat Z rfl)).1 n (fun j => .int (f j))) (fun q => by cases q) (by show ¬ (i < 0 ∨ (arrV _ _ _).slots.size ≤ _); rw [arrV_size]; exact hin) rfl rfl hd fun H1 e1 z oq => ?_
  refine kk H1 _ ls (hR.put hh z oq ?_) (hS.put z oq (Nat.le_add_right _ _)) hl
  show H1[mm_B Z + o]? = some (vp_cell _ _)
  rw [e1]
  show some (Cell.setSlot (vp_cell (Z.2.2.2.2 .byte) (n, .inl f)) _ _) = some (vp_cell (Z.2.2.2.2 .byte) (n, .inl (upd f i.toNatClampNeg (vp_nar .byte x))))
  rw [vp_cell_i, vp_cell_i, arrV_store]
  congr 2
  funext q
  by_cases hq : q = i.toNatClampNeg
  · subst hq
    simp [updV, upd, vp_updL, vp_nar]
    try rfl
  · simp [updV, upd, vp_updL, hq]
theorem mg_zastore {o n : Nat} {i : Int32} {x : Int32} {f : Nat → Int32} (C : mm_Ok Z M X) (hc : mm_cd M pc = some (.bastore, npc, a, b, wd)) (hh : h.2 o = some (.inl (.boolean, n, .inl f))) (hin : vp_in i n)
    (kk : mG Z M X k w mc ms Q (npc, lv, st, mm_up h o (.inl (.boolean, n, .inl (upd f i.toNatClampNeg (vp_nar .boolean x)))))) : mG Z M X k w mc ms Q (pc, lv, .int x :: .int i :: .ref o :: st, h) := by
  intro H locs ls hR hS hl
  obtain ⟨hx, hb, hml, hr, hhs, hown, hnm, hlk, hts, hK, hB1, hB2, hg⟩ := C
  obtain ⟨hd, hp, hbr, hwd⟩ := hg _ _ _ _ _ _ hc
  simp only [mm_len] at hp hd
  subst hp
  have he := (hR.2.2.2 o _ hh).2
  show W _ _ _ _ _ _ _ _ _ _ _ _ _ _ _ (F0 _ pc ls (.int x :: .int i :: .ref (mm_ad Z o) :: st.map (mm_tr Z)))
  rw [mm_stk hR hh]
  refine W.zast hx hb he ((hK.1.2 3 _ (mm_tysat Z rfl)).1 n (fun j => .int (f j))) (fun q => by cases q) (by show ¬ (i < 0 ∨ (arrV _ _ _).slots.size ≤ _); rw [arrV_size]; exact hin) rfl rfl hd fun H1 e1 z oq => ?_
  refine kk H1 _ ls (hR.put hh z oq ?_) (hS.put z oq (Nat.le_add_right _ _)) hl
  show H1[mm_B Z + o]? = some (vp_cell _ _)
  rw [e1]
  show some (Cell.setSlot (vp_cell (Z.2.2.2.2 .boolean) (n, .inl f)) _ _) = some (vp_cell (Z.2.2.2.2 .boolean) (n, .inl (upd f i.toNatClampNeg (vp_nar .boolean x))))
  rw [vp_cell_i, vp_cell_i, arrV_store]
  congr 2
  funext q
  by_cases hq : q = i.toNatClampNeg
  · subst hq
    simp [updV, upd, vp_updL, vp_nar]
    try rfl
  · simp [updV, upd, vp_updL, hq]
theorem mg_lastore {o n : Nat} {i : Int32} {x : Int64} {f : Nat → Int64} (C : mm_Ok Z M X) (hc : mm_cd M pc = some (.lastore, npc, a, b, wd)) (hh : h.2 o = some (.inl (.long, n, .inr (.inl f)))) (hin : vp_in i n)
    (kk : mG Z M X k w mc ms Q (npc, lv, st, mm_up h o (.inl (.long, n, .inr (.inl (vp_updL f i.toNatClampNeg x)))))) : mG Z M X k w mc ms Q (pc, lv, .long x :: .int i :: .ref o :: st, h) := by
  intro H locs ls hR hS hl
  obtain ⟨hx, hb, hml, hr, hhs, hown, hnm, hlk, hts, hK, hB1, hB2, hg⟩ := C
  obtain ⟨hd, hp, hbr, hwd⟩ := hg _ _ _ _ _ _ hc
  simp only [mm_len] at hp hd
  subst hp
  have he := (hR.2.2.2 o _ hh).2
  show W _ _ _ _ _ _ _ _ _ _ _ _ _ _ _ (F0 _ pc ls (.long x :: .int i :: .ref (mm_ad Z o) :: st.map (mm_tr Z)))
  rw [mm_stk hR hh]
  refine W.last hx hb he ((hK.1.2 1 _ (mm_tysat Z rfl)).1 n (fun j => .long (f j))) (fun q => by cases q) (by show ¬ (i < 0 ∨ (arrV _ _ _).slots.size ≤ _); rw [arrV_size]; exact hin) rfl rfl hd fun H1 e1 z oq => ?_
  refine kk H1 _ ls (hR.put hh z oq ?_) (hS.put z oq (Nat.le_add_right _ _)) hl
  show H1[mm_B Z + o]? = some (vp_cell _ _)
  rw [e1]
  show some (Cell.setSlot (vp_cell (Z.2.2.2.2 .long) (n, .inr (.inl f))) _ _) = some (vp_cell (Z.2.2.2.2 .long) (n, .inr (.inl (vp_updL f i.toNatClampNeg x))))
  rw [vp_cell_l, vp_cell_l, arrV_store]
  congr 2
  funext q
  by_cases hq : q = i.toNatClampNeg
  · subst hq
    simp [updV, upd, vp_updL, vp_nar]
    try rfl
  · simp [updV, upd, vp_updL, hq]
theorem mg_arraylength {o : Nat} {ty : FieldType} {x : vp_A} {v : Int32} {ti : Nat} (C : mm_Ok Z M X) (hc : mm_cd M pc = some (.arraylength, npc, a, b, wd)) (hh : h.2 o = some (.inl (ty, x))) (ht : mm_types[ti]? = some ty) (hv : Int32.ofNat x.1 = v)
    (kk : mG Z M X k w mc ms Q (npc, lv, .int v :: st, h)) : mG Z M X k w mc ms Q (pc, lv, .ref o :: st, h) := by
  intro H locs ls hR hS hl
  obtain ⟨hx, hb, hml, hr, hhs, hown, hnm, hlk, hts, hK, hB1, hB2, hg⟩ := C
  obtain ⟨hd, hp, hbr, hwd⟩ := hg _ _ _ _ _ _ hc
  simp only [mm_len] at hp hd
  subst hp
  have he := (hR.2.2.2 o _ hh).2
  show W _ _ _ _ _ _ _ _ _ _ _ _ _ _ _ (F0 _ pc ls (.ref (mm_ad Z o) :: st.map (mm_tr Z)))
  rw [mm_stk hR hh]
  have hx1 : (mm_tA Z x).1 = x.1 := by obtain ⟨n, y⟩ := x; rcases y with y | y | y | y | y <;> rfl
  exact va_alen hx hb hK.1 (mm_one he) 0 ti rfl (mm_tysat Z ht) (by rw [hx1]; exact hv) hd (kk H locs ls hR hS hl)
end MH
