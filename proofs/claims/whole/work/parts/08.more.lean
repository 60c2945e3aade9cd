/-! NEW CELLS, ROWS OF REFERENCES, CONSTANTS, CONSTRUCTORS, System.arraycopy, over the small machine -/
theorem mm_vpV_tr (Z : mm_Z) (fs : List Value) (j : Nat) : vp_V (fs.map (mm_tr Z)) j = mm_tr Z (vp_V fs j) := by
  unfold vp_V
  rw [List.getD_eq_getElem?_getD, List.getD_eq_getElem?_getD, List.getElem?_map]
  cases fs[j]? <;> rfl
theorem mm_dfl (Z : mm_Z) (ty : FieldType) : mm_tr Z (defaultValue ty) = defaultValue ty := by cases ty <;> rfl
section MN
variable {Z : mm_Z} {M M' : mm_M} {X : mm_T} {k w mc ms d d' mc' ms' : Nat} {Q Q' : mm_O → mm_H → Prop} {pc npc a b : Nat} {wd : Cond} {lv : mm_V} {st rest as : List Value} {h : mm_H} {n : Nat}
theorem mg_objInit {idx o : Nat} (C : mm_Ok Z M X) (hc : mm_cd M pc = some (.invokespecial idx, npc, a, b, wd)) (hw : wd = .methodLink M.1.cls idx objectInit) (hin : Cond.instanceMethod objectInit ∈ mm_tbl) (hco : Cond.code objectInit ⟨#[0xb1]⟩ 1 none ∈ mm_tbl)
    (hRm : mt_R X = mm_rm d mc ms) (hd1 : 1 ≤ d) (hrest : (st.map fun v => v.category).sum ≤ 8) (kk : mG Z M X k w mc ms Q (npc, lv, st, h)) : mG Z M X k w mc ms Q (pc, lv, .ref o :: st, h) := by
  intro H locs ls hR hS hl
  obtain ⟨hx, hb, hml, hr, hhs, hown, hnm, hlk, hts, hK, hB1, hB2, hg⟩ := C
  obtain ⟨hd, hp, hbr, hwd⟩ := hg _ _ _ _ _ _ hc
  simp only [mm_len] at hp hd
  subst hp hw
  have hlink := mm_wd hts hwd (by simp)
  refine W.objInit hx hb hown hlink (hts _ hin) (hts _ hco) rfl (by rw [hml]; exact hl.1) rfl hd (by rw [hRm]; exact hd1) ?_ (kk H locs ls hR hS hl)
  rw [hRm]
  have h9 := lv_room (m := mt_m X) (pc := pc) (ls := ls) (rest := List.map (mm_tr Z) (.ref o :: st)) (st := st.map (mm_tr Z)) (by rw [mm_cats]; exact hrest)
  exact Nat.le_trans (Nat.add_le_add_right h9 12) (by show 8 + 12 ≤ 40 * d; omega)
theorem mg_new {idx N : Nat} {Cn : String} {T : u_T} {fs : List Value} (C : mm_Ok Z M X) (hc : mm_cd M pc = some (.new idx, npc, a, b, wd)) (hcl : mm_cl[a]? = some (Cn, T, N)) (hw : wd = .classLink M.1.cls idx Cn) (hin : Cond.instantiable Cn N ∈ mm_tbl) (hini : Cond.initialized Cn ∈ mm_tbl) (hfs : ∀ j, j < N → defaultValue (mm_ty a j) = vp_V fs j)
    (hRm : mt_R X = mm_rm d mc ms) (hk : k + 1 ≤ mc) (hw' : w + N ≤ ms) (hn : h.1 < 1000000) (kk : mG Z M X (k + 1) (w + N) mc ms Q (npc, lv, .ref h.1 :: st, mm_new h (.inr (a, fs)))) : mG Z M X k w mc ms Q (pc, lv, st, h) := by
  intro H locs ls hR hS hl
  obtain ⟨hx, hb, hml, hr, hhs, hown, hnm, hlk, hts, hK, hB1, hB2, hg⟩ := C
  obtain ⟨hd, hp, hbr, hwd⟩ := hg _ _ _ _ _ _ hc
  simp only [mm_len] at hp hd
  subst hp hw
  have hlink := mm_wd hts hwd (by simp)
  have hKn := hK.1.1 a _ hcl
  refine W.newcK hx hb hown hlink (hts _ hin) (hts _ hini) rfl hd (by rw [hRm]; exact hk) (by rw [hRm]; exact hw') hKn.2.1 hR.1 fun H1 kC hkC e1 z1 o1 => ?_
  have hS1 : va_S (fun q => mm_B Z ≤ q) (mt_s X).heap H1 locs := ⟨Nat.le_trans hS.1 (by rw [z1, hR.1]; exact Nat.le_succ _), fun x h1 h2 => (o1 x (by rw [← hR.1]; exact Nat.lt_of_lt_of_le h1 hS.1)).trans (hS.2.1 x h1 h2), hS.2.2⟩
  have hR1 : mm_Rel Z (mm_new h (.inr (a, fs))) H1 := hR.new hn (by rw [z1, hR.1]) (fun q hq => o1 q (by rw [← hR.1]; exact hq)) ⟨_, hcl, (u_born (mm_ty a) hts (mm_cls hcl).1 hKn hkC e1 (mm_cls hcl).2.1).to fun j hj => by rw [mm_vpV_tr, ← hfs j hj, mm_dfl]⟩
  have e9 : mm_ad Z h.1 = mm_B Z + h.1 := mm_ad_lt Z hn
  have h9 := kk H1 locs ls hR1 hS1 hl
  simp only [List.map_cons, mm_tr_ref, e9] at h9
  exact h9
theorem mg_newarray {at_ : ArrayType} {ty : FieldType} {ti : Nat} {n : Int32} {N : Nat} {z : vp_A} (C : mm_Ok Z M X) (hc : mm_cd M pc = some (.newarray at_, npc, a, b, wd)) (hty : newarray.typeOf at_ = ty) (hti : mm_types[ti]? = some ty) (harr : Cond.arrayClass ty ∈ mm_tbl) (hnr : ∀ c : ClassId, vp_cell c (mm_tA Z z) = arrV c N (fun _ => defaultValue ty)) (hra : ∀ (U : State) (c : ClassId), va_RA U c ty → U.vm.findClass ("[" ++ ty.toString) = some c)
    (hn0 : ¬ n < 0) (hN : n.toNatClampNeg = N) (hby : N * componentBytes ty ≤ 536870912) (hRm : mt_R X = mm_rm d mc ms) (hk : k + 1 ≤ mc) (hw' : w + N ≤ ms) (hn : h.1 < 1000000) (kk : mG Z M X (k + 1) (w + N) mc ms Q (npc, lv, .ref h.1 :: st, mm_new h (.inl (ty, z)))) : mG Z M X k w mc ms Q (pc, lv, .int n :: st, h) := by
  intro H locs ls hR hS hl
  obtain ⟨hx, hb, hml, hr, hhs, hown, hnm, hlk, hts, hK, hB1, hB2, hg⟩ := C
  obtain ⟨hd, hp, hbr, hwd⟩ := hg _ _ _ _ _ _ hc
  simp only [mm_len] at hp hd
  subst hp hty
  refine va_newaK hx hb (hts _ harr) rfl hd rfl hn0 hN hby (by rw [hRm]; exact hk) (by rw [hRm]; exact hw') hR.1 fun H1 cA e1 z1 o1 hAr hNm => ?_
  have hcA : cA = Z.2.2.2.2 (newarray.typeOf at_) := Option.some.inj (hNm.symm.trans (hra _ _ (hK.1.2 ti _ (mm_tysat Z hti)).2))
  subst hcA
  have hS1 : va_S (fun q => mm_B Z ≤ q) (mt_s X).heap H1 locs := ⟨Nat.le_trans hS.1 (by rw [z1, hR.1]; exact Nat.le_succ _), fun x h1 h2 => (o1 x (by rw [← hR.1]; exact Nat.lt_of_lt_of_le h1 hS.1)).trans (hS.2.1 x h1 h2), hS.2.2⟩
  have hR1 : mm_Rel Z (mm_new h (.inl (newarray.typeOf at_, z))) H1 := hR.new hn (by rw [z1, hR.1]) (fun q hq => o1 q (by rw [← hR.1]; exact hq)) (by show H1[mm_B Z + h.1]? = some (vp_cell _ _); rw [hnr]; exact e1)
  have e9 : mm_ad Z h.1 = mm_B Z + h.1 := mm_ad_lt Z hn
  have h9 := kk H1 locs ls hR1 hS1 hl
  simp only [List.map_cons, mm_tr_ref, e9] at h9
  exact h9
theorem mg_anewarray {idx ti : Nat} {Cn : String} {n : Int32} {N : Nat} (C : mm_Ok Z M X) (hc : mm_cd M pc = some (.anewarray idx, npc, a, b, wd)) (hw : wd = .classLink M.1.cls idx Cn) (hao : va_AO Cn (mt_s X)) (hti : mm_types[ti]? = some (.object Cn))
    (hn0 : ¬ n < 0) (hN : n.toNatClampNeg = N) (hby : N * 4 ≤ 536870912) (hRm : mt_R X = mm_rm d mc ms) (hk : k + 1 ≤ mc) (hw' : w + N ≤ ms) (hn : h.1 < 1000000) (kk : mG Z M X (k + 1) (w + N) mc ms Q (npc, lv, .ref h.1 :: st, mm_new h (.inl (.object Cn, N, .inr (.inr (.inr (.inr fun _ => none))))))) : mG Z M X k w mc ms Q (pc, lv, .int n :: st, h) := by
  intro H locs ls hR hS hl
  obtain ⟨hx, hb, hml, hr, hhs, hown, hnm, hlk, hts, hK, hB1, hB2, hg⟩ := C
  obtain ⟨hd, hp, hbr, hwd⟩ := hg _ _ _ _ _ _ hc
  simp only [mm_len] at hp hd
  subst hp hw
  have hlink := mm_wd hts hwd (by simp)
  refine W.anew hx hb hown hlink (va_AO.use hao) rfl hd rfl hn0 (by rw [hN]; exact hby) (by rw [hRm]; exact hk) (by rw [hRm, hN]; exact hw') fun cA kA comp f1 f2 f3 f4 => ?_
  have hcA : cA = Z.2.2.2.2 (.object Cn) := by
    obtain ⟨_, _, -, -, -, g4⟩ := (hK.1.2 ti _ (mm_tysat Z hti)).2
    exact Option.some.inj (f1.symm.trans g4)
  subst hcA
  rw [hN]
  generalize hH1 : H.push ({ cls := Z.2.2.2.2 (.object Cn), slots := Array.replicate N .null, vm := .none } : Cell) = H1
  have z1 : H1.size = H.size + 1 := by rw [← hH1, Array.size_push]
  have e1 : H1[H.size]? = some (arrV (Z.2.2.2.2 (.object Cn)) N (fun _ => .null)) := by rw [← hH1, Array.getElem?_push_size, ← arrV_new]
  have o1 : ∀ q : Nat, q < H.size → H1[q]? = H[q]? := fun q hq => by rw [← hH1, Array.getElem?_push, if_neg (Nat.ne_of_lt hq)]
  have hS1 : va_S (fun q => mm_B Z ≤ q) (mt_s X).heap H1 locs := ⟨Nat.le_trans hS.1 (by rw [z1]; exact Nat.le_succ _), fun x h1 h2 => (o1 x (Nat.lt_of_lt_of_le h1 hS.1)).trans (hS.2.1 x h1 h2), hS.2.2⟩
  have hR1 : mm_Rel Z (mm_new h (.inl (.object Cn, N, .inr (.inr (.inr (.inr fun _ => none)))))) H1 := hR.new hn z1 o1 (by show H1[mm_B Z + h.1]? = some (vp_cell _ (N, .inr (.inr (.inr (.inr fun _ => none))))); rw [vp_cell_q, ← hR.1]; exact e1)
  have e9 : mm_ad Z h.1 = H.size := by rw [mm_ad_lt Z hn, hR.1]
  have h9 := kk H1 locs ls hR1 hS1 hl
  simp only [List.map_cons, mm_tr_ref, e9] at h9
  exact h9
/-- an element of a row of references, not null -/
theorem mg_aaload {o n r ti : Nat} {i : Int32} {ty : FieldType} {f : Nat → Option Nat} (C : mm_Ok Z M X) (hc : mm_cd M pc = some (.aaload, npc, a, b, wd)) (hh : h.2 o = some (.inl (ty, n, .inr (.inr (.inr (.inr f)))))) (hti : mm_types[ti]? = some ty) (href : ty.isReference = true) (hin : vp_in i n) (hv : f i.toNatClampNeg = some r)
    (kk : mG Z M X k w mc ms Q (npc, lv, .ref r :: st, h)) : mG Z M X k w mc ms Q (pc, lv, .int i :: .ref o :: st, h) := by
  intro H locs ls hR hS hl
  obtain ⟨hx, hb, hml, hr, hhs, hown, hnm, hlk, hts, hK, hB1, hB2, hg⟩ := C
  obtain ⟨hd, hp, hbr, hwd⟩ := hg _ _ _ _ _ _ hc
  simp only [mm_len] at hp hd
  subst hp
  have he := (hR.2.2.2 o _ hh).2
  show W _ _ _ _ _ _ _ _ _ _ _ _ _ _ _ (F0 _ pc ls (.int i :: .ref (mm_ad Z o) :: st.map (mm_tr Z)))
  rw [mm_stk hR hh]
  have hlt : i.toNatClampNeg < n := Nat.not_le.mp fun q => hin (Or.inr q)
  exact W.aald (v := .ref (mm_ad Z r)) (ty := ty) hx hb he ((hK.1.2 ti _ (mm_tysat Z hti)).1 n (fun j => va_rf ((f j).map (mm_ad Z)))) href (fun q => by cases q) (by show ¬ (i < 0 ∨ (arrV _ _ _).slots.size ≤ _); rw [arrV_size]; exact hin) (by show (arrV (Z.2.2.2.2 ty) n (fun j => va_rf ((f j).map (mm_ad Z)))).slots[_]? = _; rw [arrV_read _ _ hlt, hv]; rfl) rfl rfl hd (kk H locs ls hR hS hl)
/-- an object of the world into a row of its own class -/
theorem mg_aastore {o n r ti ci N : Nat} {i : Int32} {Cn : String} {T : u_T} {fs : List Value} {f : Nat → Option Nat} (C : mm_Ok Z M X) (hc : mm_cd M pc = some (.aastore, npc, a, b, wd)) (hh : h.2 o = some (.inl (.object Cn, n, .inr (.inr (.inr (.inr f)))))) (hti : mm_types[ti]? = some (.object Cn)) (hr0 : h.2 r = some (.inr (ci, fs))) (hcl : mm_cl[ci]? = some (Cn, T, N)) (hin : vp_in i n)
    (kk : mG Z M X k w mc ms Q (npc, lv, st, mm_up h o (.inl (.object Cn, n, .inr (.inr (.inr (.inr (va_up f i.toNatClampNeg (some r))))))))) : mG Z M X k w mc ms Q (pc, lv, .ref r :: .int i :: .ref o :: st, h) := by
  intro H locs ls hR hS hl
  obtain ⟨hx, hb, hml, hr, hhs, hown, hnm, hlk, hts, hK, hB1, hB2, hg⟩ := C
  obtain ⟨hd, hp, hbr, hwd⟩ := hg _ _ _ _ _ _ hc
  simp only [mm_len] at hp hd
  subst hp
  have he := (hR.2.2.2 o _ hh).2
  show W _ _ _ _ _ _ _ _ _ _ _ _ _ _ _ (F0 _ pc ls (.ref (mm_ad Z r) :: .int i :: .ref (mm_ad Z o) :: st.map (mm_tr Z)))
  rw [mm_stk hR hh]
  have hlt : i.toNatClampNeg < n := Nat.not_le.mp fun q => hin (Or.inr q)
  have h0 : ¬ i < 0 := fun q => hin (Or.inl q)
  have er := mm_stk hR hr0
  obtain ⟨r', hr', cellV, g1, g2, g3, -⟩ := (hR.2.2.2 r _ hr0).2
  have hcls := (hK.1.1 ci _ hcl).2
  obtain ⟨kA, comp, k1, k2, k3, -⟩ := (hK.1.2 ti _ (mm_tysat Z hti)).2
  have hcomp : comp = Z.2.1.1 ci := Option.some.inj (k3.symm.trans hcls.1)
  subst hcomp
  obtain ⟨kC, hkC, -⟩ := hcls.2
  rw [er]
  refine W.aast hx hb he (fun q h => by cases h) (fun h => by cases h) k1 k2 rfl hkC ⟨h0, by show _ < (arrV _ _ _).slots.size; rw [arrV_size]; exact hlt⟩ g1 (fun q h => by rw [g3] at h; cases h) (by rw [g2]; exact hkC) (by rw [g2]; exact va_assign hcls) rfl rfl hd fun H1 e1 z oq => ?_
  refine kk H1 _ ls (hR.put hh z oq ?_) (hS.put z oq (Nat.le_add_right _ _)) hl
  show H1[mm_B Z + o]? = some (vp_cell (Z.2.2.2.2 (.object Cn)) (n, .inr (.inr (.inr (.inr fun j => (va_up f i.toNatClampNeg (some r) j).map (mm_ad Z))))))
  rw [e1]
  show some (Cell.setSlot (vp_cell (Z.2.2.2.2 (.object Cn)) (n, .inr (.inr (.inr (.inr fun j => (f j).map (mm_ad Z)))))) _ _) = _
  rw [vp_cell_q, vp_cell_q, arrV_store]
  congr 2
  funext q
  by_cases hq : q = i.toNatClampNeg
  · subst hq
    simp [updV, va_up, va_rf, er]
  · simp [updV, va_up, hq]
theorem mg_ldc {idx : Nat} {v : Int32} (C : mm_Ok Z M X) (hc : mm_cd M pc = some (.ldc idx, npc, a, b, wd)) (hw : wd = .constant M.1.cls idx v) (kk : mG Z M X k w mc ms Q (npc, lv, .int v :: st, h)) : mG Z M X k w mc ms Q (pc, lv, st, h) := by
  intro H locs ls hR hS hl
  obtain ⟨hx, hb, hml, hr, hhs, hown, hnm, hlk, hts, hK, hB1, hB2, hg⟩ := C
  obtain ⟨hd, hp, hbr, hwd⟩ := hg _ _ _ _ _ _ hc
  simp only [mm_len] at hp hd
  subst hp hw
  exact lv_ldc hx hb hown (mm_wd hts hwd (by simp)) hd (kk H locs ls hR hS hl)
theorem mg_ldc_w {idx : Nat} {v : Int32} (C : mm_Ok Z M X) (hc : mm_cd M pc = some (.ldc_w idx, npc, a, b, wd)) (hw : wd = .constant M.1.cls idx v) (kk : mG Z M X k w mc ms Q (npc, lv, .int v :: st, h)) : mG Z M X k w mc ms Q (pc, lv, st, h) := by
  intro H locs ls hR hS hl
  obtain ⟨hx, hb, hml, hr, hhs, hown, hnm, hlk, hts, hK, hB1, hB2, hg⟩ := C
  obtain ⟨hd, hp, hbr, hwd⟩ := hg _ _ _ _ _ _ hc
  simp only [mm_len] at hp hd
  subst hp hw
  exact lv_ldcw hx hb hown (mm_wd hts hwd (by simp)) hd (kk H locs ls hR hS hl)
theorem mg_ldc2_w {idx : Nat} {v : Int64} (C : mm_Ok Z M X) (hc : mm_cd M pc = some (.ldc2_w idx, npc, a, b, wd)) (hw : wd = .constantLong M.1.cls idx v) (kk : mG Z M X k w mc ms Q (npc, lv, .long v :: st, h)) : mG Z M X k w mc ms Q (pc, lv, st, h) := by
  intro H locs ls hR hS hl
  obtain ⟨hx, hb, hml, hr, hhs, hown, hnm, hlk, hts, hK, hB1, hB2, hg⟩ := C
  obtain ⟨hd, hp, hbr, hwd⟩ := hg _ _ _ _ _ _ hc
  simp only [mm_len] at hp hd
  subst hp hw
  exact lv_ldc2 hx hb hown (mm_wd hts hwd (by simp)) hd (kk H locs ls hR hS hl)
/-- a String constant: its number is 1000000 + its place among the texts -/
theorem mg_ldcS {idx i : Nat} {tx : String} (C : mm_Ok Z M X) (hc : mm_cd M pc = some (.ldc idx, npc, a, b, wd)) (hs : (M.1.cls, idx, tx, i) ∈ mm_sr) (kk : mG Z M X k w mc ms Q (npc, lv, .ref (1000000 + i) :: st, h)) : mG Z M X k w mc ms Q (pc, lv, st, h) := by
  intro H locs ls hR hS hl
  obtain ⟨hx, hb, hml, hr, hhs, hown, hnm, hlk, hts, hK, hB1, hB2, hg⟩ := C
  obtain ⟨hd, hp, hbr, hwd⟩ := hg _ _ _ _ _ _ hc
  simp only [mm_len] at hp hd
  subst hp
  have h9 := kk H locs ls hR hS hl
  have e9 : mm_ad Z (1000000 + i) = Z.2.2.2.1 i := by
    unfold mm_ad
    rw [if_neg (by omega), Nat.add_sub_cancel_left]
  simp only [List.map_cons, mm_tr_ref, e9] at h9
  exact va_ldcS hx hb hown (hK.2.2.2.1 _ hs) hd h9
/-- System.arraycopy of ints, of bytes -/
theorem mg_copy {idx o0 o1 n0 n1 ti : Nat} {ty : FieldType} {f g : Nat → Int32} {sp dp n : Int32} (C : mm_Ok Z M X) (hc : mm_cd M pc = some (.invokestatic idx, npc, a, b, wd)) (hw : wd = .methodLink M.1.cls idx arraycopyName) (hna : Cond.native arraycopyName ∈ mm_tbl) (hsta : Cond.static arraycopyName ∈ mm_tbl) (hini : Cond.initialized "java/lang/System" ∈ mm_tbl)
    (hti : mm_types[ti]? = some ty) (hprim : refKind ty = false) (ho0 : h.2 o0 = some (.inl (ty, n0, .inl f))) (ho1 : h.2 o1 = some (.inl (ty, n1, .inl g))) (h1 : ¬ sp < 0) (h2 : ¬ dp < 0) (h3 : ¬ n < 0) (h4 : sp.toNatClampNeg + n.toNatClampNeg ≤ n0) (h5 : dp.toNatClampNeg + n.toNatClampNeg ≤ n1) (hfit : ∀ i, i < n.toNatClampNeg → fits ty (.int (f (sp.toNatClampNeg + i))) = true)
    (hRm : mt_R X = mm_rm d mc ms) (hd1 : 1 ≤ d) (hrest : (st.map fun v => v.category).sum ≤ 8)
    (kk : mG Z M X k w mc ms Q (npc, lv, st, mm_up h o1 (.inl (ty, n1, .inl (va_cpy f g sp.toNatClampNeg dp.toNatClampNeg n.toNatClampNeg))))) : mG Z M X k w mc ms Q (pc, lv, .int n :: .int dp :: .ref o1 :: .int sp :: .ref o0 :: st, h) := by
  intro H locs ls hR hS hl T hT Y
  obtain ⟨hx, hb, hml, hr, hhs, hown, hnm, hlk, hts, hK, hB1, hB2, hg⟩ := C
  obtain ⟨hd, hp, hbr, hwd⟩ := hg _ _ _ _ _ _ hc
  simp only [mm_len] at hp hd
  subst hp hw
  have hlink := mm_wd hts hwd (by simp)
  have nn : ∀ z : Int32, ¬ z < 0 → z.toInt = (z.toNatClampNeg : Int) := by
    intro z hz
    have hz0 : (0 : Int) ≤ z.toInt := by
      have := Int32.not_lt.mp hz
      simpa using Int32.le_iff_toInt_le.mp this
    show z.toInt = ((z.toInt.toNat : Nat) : Int)
    omega
  have hc0 : H[mm_B Z + o0]? = some (vp_cell (Z.2.2.2.2 ty) (n0, .inl f)) := (hR.2.2.2 o0 _ ho0).2
  have hc1 : H[mm_B Z + o1]? = some (vp_cell (Z.2.2.2.2 ty) (n1, .inl g)) := (hR.2.2.2 o1 _ ho1).2
  obtain ⟨-, k0, hk0, cm0, hkk0⟩ := (hK.1.2 ti _ (mm_tysat Z hti)).1 n0 (fun j => .int (f j))
  have hcat : (((st.map (mm_tr Z)).map fun v => v.category).sum) ≤ 8 := by rw [mm_cats]; exact hrest
  obtain ⟨vm', Y', step⟩ := Y.arraycopy hx hown hlink (hts _ hna) (hts _ hsta) (hts _ hini) (src := mm_B Z + o0) (dst := mm_B Z + o1) (cs := vp_cell (Z.2.2.2.2 ty) (n0, .inl f)) (cd := vp_cell (Z.2.2.2.2 ty) (n1, .inl g)) (srcPos := sp) (destPos := dp) (n := n) (by rw [hT]; exact hc0) (by rw [hT]; exact hc1)
    (fun _ h => by cases h) (fun _ h => by cases h) (fun h => by cases h) (fun h => by cases h) hk0 hk0 hkk0 hkk0 (by simp [hprim]) h1 h2 h3
    (by rw [nn sp h1, nn n h3]; show ¬ _ > ((arrV (Z.2.2.2.2 ty) n0 (fun j => .int (f j))).slots.size : Int); rw [arrV_size]; omega)
    (by rw [nn dp h2, nn n h3]; show ¬ _ > ((arrV (Z.2.2.2.2 ty) n1 (fun j => .int (g j))).slots.size : Int); rw [arrV_size]; omega)
    (fun vm₁ _ i hi => by
      have e : (vp_cell (Z.2.2.2.2 ty) (n0, .inl f)).slots.getD (sp.toNatClampNeg + i) .null = .int (f (sp.toNatClampNeg + i)) := by
        show (arrV (Z.2.2.2.2 ty) n0 (fun j => .int (f j))).slots.getD _ _ = _
        rw [Array.getD_eq_getD_getElem?, arrV_read _ _ (by omega)]
        rfl
      refine ⟨?_, ?_⟩
      · rw [e]
        exact hfit i hi
      · rw [e]
        exact trivial)
    (g := F0 (mt_m X) pc ls (.int n :: .int dp :: .ref (mm_B Z + o1) :: .int sp :: .ref (mm_B Z + o0) :: st.map (mm_tr Z))) rfl (by rw [hml]; exact hl.1) (rest := st.map (mm_tr Z)) rfl (by rw [hb]; exact hd) (by rw [hRm]; exact hd1) (by
      rw [hRm]
      have h9 : nativeFrameWords "java/lang/System" "arraycopy" 5 + 11 ≤ 32 := by decide +kernel
      show 2 * 0 + _ + _ ≤ 40 * d
      omega)
  have e1 : copied (vp_cell (Z.2.2.2.2 ty) (n0, .inl f)) (vp_cell (Z.2.2.2.2 ty) (n1, .inl g)) sp dp n = vp_cell (Z.2.2.2.2 ty) (n1, .inl (va_cpy f g sp.toNatClampNeg dp.toNatClampNeg n.toNatClampNeg)) := va_copied (fun z => .int z) _ _ f g h4
  rw [e1] at Y' step
  have hlt : mm_B Z + o1 < H.size := (Array.getElem?_eq_some_iff.mp hc1).1
  have hheap : ((T.setVm vm').setCell (mm_B Z + o1) (vp_cell (Z.2.2.2.2 ty) (n1, .inl (va_cpy f g sp.toNatClampNeg dp.toNatClampNeg n.toNatClampNeg)))).heap = H.setIfInBounds (mm_B Z + o1) (vp_cell (Z.2.2.2.2 ty) (n1, .inl (va_cpy f g sp.toNatClampNeg dp.toNatClampNeg n.toNatClampNeg))) := by rw [← hT]; rfl
  have oq : ∀ q : Nat, q ≠ mm_B Z + o1 → (H.setIfInBounds (mm_B Z + o1) (vp_cell (Z.2.2.2.2 ty) (n1, .inl (va_cpy f g sp.toNatClampNeg dp.toNatClampNeg n.toNatClampNeg))))[q]? = H[q]? := fun q hq => by simp [Array.getElem?_setIfInBounds, Ne.symm hq]
  have hA : ∀ q ∈ (locs ++ (List.range n.toNatClampNeg).map fun z => (⟨mm_B Z + o1, dp.toNatClampNeg + z⟩ : Loc)), mm_B Z ≤ q.base := fun q hq => by
    rcases List.mem_append.mp hq with h | h
    · exact hS.2.2 q h
    · obtain ⟨z, -, hz⟩ := List.mem_map.mp h
      rw [← hz]
      exact Nat.le_add_right _ _
  have hS1 : ∀ L : List Loc, (∀ q ∈ L, mm_B Z ≤ q.base) → va_S (fun q => mm_B Z ≤ q) (mt_s X).heap (H.setIfInBounds (mm_B Z + o1) (vp_cell (Z.2.2.2.2 ty) (n1, .inl (va_cpy f g sp.toNatClampNeg dp.toNatClampNeg n.toNatClampNeg)))) L := fun L hL => ⟨by simp; exact hS.1, fun q g1 g2 => by
      rw [oq q (fun e => g2 (by rw [e]; exact Nat.le_add_right _ _))]
      exact hS.2.1 q g1 g2, hL⟩
  obtain ⟨t, a1, b1⟩ := kk _ _ ls (hR.put ho1 (by simp) oq (show (H.setIfInBounds (mm_B Z + o1) _)[mm_B Z + o1]? = some _ by simp [Array.getElem?_setIfInBounds, hlt]; rfl)) (hS1 _ (fun q hq => by
      rcases List.mem_append.mp hq with h | h
      · exact hS.2.2 q h
      · obtain ⟨z, -, hz⟩ := List.mem_map.mp h
        rw [← hz]
        exact Nat.le_add_right _ _)) hl _ hheap Y'
  refine ⟨t, ?_, b1⟩
  have h8 := step t a1
  have q0 := mm_stk hR ho0
  have q1 := mm_stk hR ho1
  simp only [List.map_cons, mm_tr_ref, mm_tr_int, q0, q1]
  exact h8
end MN
