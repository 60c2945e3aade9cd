/- needs: 15.acall 15.fun -/
/-! CONSTRUCTORS: cells are made; where they lie is known -/
def dfl : Nat → List Value
  | 0 => [.int 0, .int 0, .int 0, .int 0, .int 0, .int 0, .null, .null, .null, .null, .null, .int 0, .int 0]
  | 1 => [.null, .null, .null, .null, .int 0]
  | 2 => [.int 0, .int 0, .null, .null, .int 0, .int 0, .int 0]
  | 3 => [.int 0, .int 0, .int 0, .int 0, .int 0, .int 0, .null, .null, .null]
  | 4 => [.int 0, .null, .int 0, .null, .null, .int 0]
  | 5 => [.null, .null, .int 0, .null, .null, .null, .int 0, .null]
  | 6 => [.int 0, .int 0, .int 0, .int 0, .null, .null, .null, .null, .int 0, .null, .null, .null, .null]
  | 7 => [.int 0, .int 0, .int 0, .int 0, .int 0, .int 0]
  | 8 => [.null]
  | 9 => [.int 0, .int 0, .int 0, .int 0, .int 0, .int 0, .int 0, .null, .null]
  | 10 => [.int 0, .int 0, .null, .int 0, .int 0]
  | 11 => [.null, .int 0, .int 0, .null, .null, .null, .null, .null, .int 0, .null, .null, .null, .null]
  | 12 => [.null, .null, .int 0, .null, .null, .null, .null, .null, .null, .null, .null, .null, .null, .null, .null, .null, .int 0, .int 0, .int 0, .int 0, .int 0, .int 0, .int 0, .int 0, .int 0, .int 0, .null, .null, .int 0, .int 0, .int 0, .null, .null, .null, .null, .int 0, .int 0, .int 0, .int 0, .int 0, .int 0, .null, .int 0, .int 0, .null, .int 0, .int 0, .null, .null, .null, .int 0, .null, .int 0, .int 0, .int 0, .null, .null, .null, .null, .null, .null]
  | _ => []
theorem dfl_0 : ∀ j, j < 13 → defaultValue (mm_ty 0 j) = vp_V (dfl 0) j := by decide +kernel
theorem dfl_1 : ∀ j, j < 5 → defaultValue (mm_ty 1 j) = vp_V (dfl 1) j := by decide +kernel
theorem dfl_2 : ∀ j, j < 7 → defaultValue (mm_ty 2 j) = vp_V (dfl 2) j := by decide +kernel
theorem dfl_3 : ∀ j, j < 9 → defaultValue (mm_ty 3 j) = vp_V (dfl 3) j := by decide +kernel
theorem dfl_4 : ∀ j, j < 6 → defaultValue (mm_ty 4 j) = vp_V (dfl 4) j := by decide +kernel
theorem dfl_5 : ∀ j, j < 8 → defaultValue (mm_ty 5 j) = vp_V (dfl 5) j := by decide +kernel
theorem dfl_6 : ∀ j, j < 13 → defaultValue (mm_ty 6 j) = vp_V (dfl 6) j := by decide +kernel
theorem dfl_7 : ∀ j, j < 6 → defaultValue (mm_ty 7 j) = vp_V (dfl 7) j := by decide +kernel
theorem dfl_8 : ∀ j, j < 1 → defaultValue (mm_ty 8 j) = vp_V (dfl 8) j := by decide +kernel
theorem dfl_9 : ∀ j, j < 9 → defaultValue (mm_ty 9 j) = vp_V (dfl 9) j := by decide +kernel
theorem dfl_10 : ∀ j, j < 5 → defaultValue (mm_ty 10 j) = vp_V (dfl 10) j := by decide +kernel
theorem dfl_11 : ∀ j, j < 13 → defaultValue (mm_ty 11 j) = vp_V (dfl 11) j := by decide +kernel
theorem dfl_12 : ∀ j, j < 61 → defaultValue (mm_ty 12 j) = vp_V (dfl 12) j := by decide +kernel
def hB (m : Nat) (r : Option mm_C) (Q : mm_O → mm_H → Prop) : Prop := ∃ c', r = some c' ∧ Q (.inl none) (m, c')
def mB (m : Nat) (r : Option mm_C) : mm_O → mm_H → Prop := fun o h' => ∃ c', r = some c' ∧ o = .inl none ∧ h' = (m, c')
theorem hB_mB (m : Nat) {r : Option mm_C} (h : r.isSome = true) : hB m r (mB m r) := by
  cases r with
  | none => cases h
  | some c => exact ⟨c, rfl, c, rfl, rfl, rfl⟩
def mkO (c : mm_C) (m ci : Nat) : Option mm_C := some (cup c m (.inr (ci, dfl ci)))
def mkA (c : mm_C) (m : Nat) (ty : FieldType) (len : Nat) : Option mm_C := some (cup c m (.inl (ty, len, .inl fun _ => 0)))
def mkR (c : mm_C) (m : Nat) (cn : String) (len : Nat) : Option mm_C := some (cup c m (.inl (.object cn, len, .inr (.inr (.inr (.inr fun _ => none))))))
def cmna (c : mm_C) (m N K : Nat) : mm_C := fun a => if a = m then some (.inl (.array .int, N, .inr (.inr (.inr (.inr fun i => if i < N then some (m + 1 + i) else none))))) else if m < a ∧ a ≤ m + N then some (.inl (.int, K, .inl fun _ => 0)) else c a
def mkM (c : mm_C) (m N K : Nat) : Option mm_C := some (cmna c m N K)
def tS (c : mm_C) (o : Nat) (i : Int32) (r : Nat) : Option mm_C := match c o with
  | some (.inl (ty, n, .inr (.inr (.inr (.inr f))))) => if ty = .object "java/lang/String" ∧ inA i n ∧ 1000000 ≤ r ∧ r < 1000037 then some (cup c o (.inl (.object "java/lang/String", n, .inr (.inr (.inr (.inr (va_up f i.toNatClampNeg (some r)))))))) else none
  | _ => none
theorem mn_inner (c : ClassId) (M : Nat) (dv : Value) : Jvm.Free.Multi.innerC c M dv = arrV c M (fun _ => dv) := by
  unfold Jvm.Free.Multi.innerC arrV
  congr 1
  apply Array.ext
  · simp
  · intro i h1 h2
    simp
section HC
variable {Z : mm_Z} {M M' : mm_M} {X : mm_T} {k w mc ms d d' n m m' mc' ms' : Nat} {Q : mm_O → mm_H → Prop} {pc npc a b : Nat} {wd : Cond} {lv : mm_V} {st rest as : List Value} {c : mm_C} {α : Type}
theorem hB_bind {x : Option α} {f : α → Option mm_C} (h : hB m (Option.bind x f) Q) : ∃ v, x = some v ∧ hB m (f v) Q := by
  cases x with
  | none => obtain ⟨_, h, _⟩ := h; cases h
  | some v => exact ⟨v, rfl, h⟩
theorem mk_gR {idx o N : Nat} {Cn : String} {T : u_T} {f : Nat → Option mm_C} (C : mm_Ok Z M X) (hc : mm_cd M pc = some (.getfield idx, npc, a, b, wd)) (hcl : mm_cl[a]? = some (Cn, T, N)) (hw : wd = .fieldLink M.1.cls idx (T b).1 (T b).2.1 (T b).2.2.1) (hbN : b < N) (hf : hB m (Option.bind (gR c o a b) f) Q)
    (kk : ∀ x, hB m (f x) Q → mG Z M X k w mc ms Q (npc, lv, .ref x :: st, (n, c))) : mG Z M X k w mc ms Q (pc, lv, .ref o :: st, (n, c)) := by
  obtain ⟨x, e, hg⟩ := hB_bind hf
  unfold gR at e
  split at e
  · rename_i a' fs h0
    split at e
    · rename_i ha
      subst ha
      split at e
      · rename_i y h1
        cases e
        exact mg_getfield C hc hcl hw hbN h0 h1 (kk _ hg)
      · cases e
    · cases e
  · cases e
theorem mk_pI {idx o N : Nat} {Cn : String} {T : u_T} {x : Int32} {f : mm_C → Option mm_C} (C : mm_Ok Z M X) (hc : mm_cd M pc = some (.putfield idx, npc, a, b, wd)) (hcl : mm_cl[a]? = some (Cn, T, N)) (hw : wd = .fieldLink M.1.cls idx (T b).1 (T b).2.1 (T b).2.2.1) (hbN : b < N) (hfin : (T b).2.2.2 = false) (hn1 : narrow (mm_ty a b) (.int x) = .int x) (hf1 : fits (mm_ty a b) (.int x) = true) (hf : hB m (Option.bind (pI c o a b x) f) Q)
    (kk : ∀ c', hB m (f c') Q → mG Z M X k w mc ms Q (npc, lv, st, (n, c'))) : mG Z M X k w mc ms Q (pc, lv, .int x :: .ref o :: st, (n, c)) := by
  obtain ⟨c', e, hg⟩ := hB_bind hf
  unfold pI pV at e
  split at e
  · rename_i a' fs h0
    split at e
    · rename_i ha
      obtain ⟨ha, hl⟩ := ha
      subst ha
      cases e
      exact mg_putfield C hc hcl hw hbN hfin h0 hl hn1 hf1 (kk _ hg)
    · cases e
  · cases e
theorem mk_pR {idx o N : Nat} {Cn : String} {T : u_T} {x : Nat} {f : mm_C → Option mm_C} (C : mm_Ok Z M X) (hc : mm_cd M pc = some (.putfield idx, npc, a, b, wd)) (hcl : mm_cl[a]? = some (Cn, T, N)) (hw : wd = .fieldLink M.1.cls idx (T b).1 (T b).2.1 (T b).2.2.1) (hbN : b < N) (hfin : (T b).2.2.2 = false) (hn1 : narrow (mm_ty a b) (.ref x) = .ref x) (hf1 : fits (mm_ty a b) (.ref x) = true) (hf : hB m (Option.bind (pR c o a b x) f) Q)
    (kk : ∀ c', hB m (f c') Q → mG Z M X k w mc ms Q (npc, lv, st, (n, c'))) : mG Z M X k w mc ms Q (pc, lv, .ref x :: .ref o :: st, (n, c)) := by
  obtain ⟨c', e, hg⟩ := hB_bind hf
  unfold pR pV at e
  split at e
  · rename_i a' fs h0
    split at e
    · rename_i ha
      obtain ⟨ha, hl⟩ := ha
      subst ha
      cases e
      exact mg_putfield C hc hcl hw hbN hfin h0 hl hn1 hf1 (kk _ hg)
    · cases e
  · cases e
theorem mk_pIf {idx o N : Nat} {Cn : String} {T : u_T} {x : Int32} {f : mm_C → Option mm_C} (C : mm_Ok Z M X) (hc : mm_cd M pc = some (.putfield idx, npc, a, b, wd)) (hcl : mm_cl[a]? = some (Cn, T, N)) (hw : wd = .fieldLink M.1.cls idx (T b).1 (T b).2.1 (T b).2.2.1) (hbN : b < N) (hfin : (T b).2.2.2 = true) (hini : M.1.name = "<init>") (hdecl : (T b).1 = M.1.cls) (hn1 : narrow (mm_ty a b) (.int x) = .int x) (hf1 : fits (mm_ty a b) (.int x) = true) (hf : hB m (Option.bind (pI c o a b x) f) Q)
    (kk : ∀ c', hB m (f c') Q → mG Z M X k w mc ms Q (npc, lv, st, (n, c'))) : mG Z M X k w mc ms Q (pc, lv, .int x :: .ref o :: st, (n, c)) := by
  obtain ⟨c', e, hg⟩ := hB_bind hf
  unfold pI pV at e
  split at e
  · rename_i a' fs h0
    split at e
    · rename_i ha
      obtain ⟨ha, hl⟩ := ha
      subst ha
      cases e
      exact mg_putfinal C hc hcl hw hbN hfin hini hdecl h0 hl hn1 hf1 (kk _ hg)
    · cases e
  · cases e
theorem mk_pRf {idx o N : Nat} {Cn : String} {T : u_T} {x : Nat} {f : mm_C → Option mm_C} (C : mm_Ok Z M X) (hc : mm_cd M pc = some (.putfield idx, npc, a, b, wd)) (hcl : mm_cl[a]? = some (Cn, T, N)) (hw : wd = .fieldLink M.1.cls idx (T b).1 (T b).2.1 (T b).2.2.1) (hbN : b < N) (hfin : (T b).2.2.2 = true) (hini : M.1.name = "<init>") (hdecl : (T b).1 = M.1.cls) (hn1 : narrow (mm_ty a b) (.ref x) = .ref x) (hf1 : fits (mm_ty a b) (.ref x) = true) (hf : hB m (Option.bind (pR c o a b x) f) Q)
    (kk : ∀ c', hB m (f c') Q → mG Z M X k w mc ms Q (npc, lv, st, (n, c'))) : mG Z M X k w mc ms Q (pc, lv, .ref x :: .ref o :: st, (n, c)) := by
  obtain ⟨c', e, hg⟩ := hB_bind hf
  unfold pR pV at e
  split at e
  · rename_i a' fs h0
    split at e
    · rename_i ha
      obtain ⟨ha, hl⟩ := ha
      subst ha
      cases e
      exact mg_putfinal C hc hcl hw hbN hfin hini hdecl h0 hl hn1 hf1 (kk _ hg)
    · cases e
  · cases e
theorem mk_tI {o : Nat} {i x : Int32} {f : mm_C → Option mm_C} (C : mm_Ok Z M X) (hc : mm_cd M pc = some (.iastore, npc, a, b, wd)) (hf : hB m (Option.bind (tI c o i x) f) Q)
    (kk : ∀ c', hB m (f c') Q → mG Z M X k w mc ms Q (npc, lv, st, (n, c'))) : mG Z M X k w mc ms Q (pc, lv, .int x :: .int i :: .ref o :: st, (n, c)) := by
  obtain ⟨c', e, hg⟩ := hB_bind hf
  unfold tI at e
  split at e
  · rename_i n0 g h0
    split at e
    · rename_i hi
      cases e
      exact mg_iastore C hc h0 hi (kk _ hg)
    · cases e
  · cases e
theorem mk_tR {o r ti ci N : Nat} {i : Int32} {Cn : String} {T : u_T} {f : mm_C → Option mm_C} (C : mm_Ok Z M X) (hc : mm_cd M pc = some (.aastore, npc, a, b, wd)) (hti : mm_types[ti]? = some (.object Cn)) (hcl : mm_cl[ci]? = some (Cn, T, N)) (hf : hB m (Option.bind (tR Cn ci c o i r) f) Q)
    (kk : ∀ c', hB m (f c') Q → mG Z M X k w mc ms Q (npc, lv, st, (n, c'))) : mG Z M X k w mc ms Q (pc, lv, .ref r :: .int i :: .ref o :: st, (n, c)) := by
  obtain ⟨c', e, hg⟩ := hB_bind hf
  unfold tR at e
  split at e
  · rename_i ty n0 g h0
    split at e
    · rename_i hi
      obtain ⟨h1, hi, h2⟩ := hi
      subst h1
      cases e
      obtain ⟨fs, h3⟩ := isO_at h2
      exact mg_aastore C hc h0 hti h3 hcl hi (kk _ hg)
    · cases e
  · cases e
theorem mk_tS {o r : Nat} {i : Int32} {f : mm_C → Option mm_C} (C : mm_Ok Z M X) (hc : mm_cd M pc = some (.aastore, npc, a, b, wd)) (hf : hB m (Option.bind (tS c o i r) f) Q)
    (kk : ∀ c', hB m (f c') Q → mG Z M X k w mc ms Q (npc, lv, st, (n, c'))) : mG Z M X k w mc ms Q (pc, lv, .ref r :: .int i :: .ref o :: st, (n, c)) := by
  obtain ⟨c', e, hg⟩ := hB_bind hf
  unfold tS at e
  split at e
  case h_2 => cases e
  rename_i ty n0 g h0
  split at e
  case isFalse => cases e
  rename_i hi
  obtain ⟨h1, hin, h2, h3⟩ := hi
  subst h1
  cases e
  obtain ⟨s0, rfl⟩ : ∃ s0, r = 1000000 + s0 := ⟨r - 1000000, by omega⟩
  have hs0 : s0 < 37 := by omega
  have hkk := kk _ hg
  intro H locs ls hR hS hl
  have hR : mm_Rel Z (n, c) H := hR
  obtain ⟨hx, hb, hml, hr, hhs, hown, hnm, hlk, hts, hK, hB1, hB2, hgd⟩ := C
  obtain ⟨hd, hp, hbr, hwd⟩ := hgd _ _ _ _ _ _ hc
  simp only [mm_len] at hp hd
  subst hp
  have hh : (n, c).2 o = some (.inl (.object "java/lang/String", n0, .inr (.inr (.inr (.inr g))))) := h0
  have he := (hR.2.2.2 o _ hh).2
  have e9 : mm_ad Z (1000000 + s0) = Z.2.2.2.1 s0 := by
    unfold mm_ad
    rw [if_neg (by omega), Nat.add_sub_cancel_left]
  show W _ _ _ _ _ _ _ _ _ _ _ _ _ _ _ (F0 _ pc ls (.ref (mm_ad Z (1000000 + s0)) :: .int i :: .ref (mm_ad Z o) :: st.map (mm_tr Z)))
  rw [mm_stk hR hh]
  have hlt : i.toNatClampNeg < n0 := Nat.not_le.mp fun q => hin (Or.inr q)
  have hp0 : ¬ i < 0 := fun q => hin (Or.inl q)
  obtain ⟨cellV, g1, g2, g3, g4⟩ := (hK.2.2.1.1 s0 hs0).1
  obtain ⟨kA, comp, k1, k2, k3, -⟩ := (hK.1.2 6 _ (mm_tysat Z rfl)).2
  have hcomp : comp = cellV.cls := Option.some.inj (k3.symm.trans g3)
  subst hcomp
  obtain ⟨kC, hkC, -⟩ := Vm.findClass_spec g3
  rw [e9]
  refine W.aast hx hb he (fun q h => by cases h) (fun h => by cases h) k1 k2 rfl hkC ⟨hp0, by show _ < (arrV _ _ _).slots.size; rw [arrV_size]; exact hlt⟩ (cv := cellV) (by rw [hR.2.2.1 _ (Nat.lt_of_not_le g4)]; exact g1) (fun q h => by rw [h] at g2; cases g2) hkC (va_asg _ _) rfl rfl hd fun H1 e1 z oq => ?_
  refine hkk H1 _ ls (hR.put hh z oq ?_) (hS.put z oq (Nat.le_add_right _ _)) hl
  show H1[mm_B Z + o]? = some (vp_cell (Z.2.2.2.2 (.object "java/lang/String")) (n0, .inr (.inr (.inr (.inr fun j => (va_up g i.toNatClampNeg (some (1000000 + s0)) j).map (mm_ad Z))))))
  rw [e1]
  show some (Cell.setSlot (vp_cell (Z.2.2.2.2 (.object "java/lang/String")) (n0, .inr (.inr (.inr (.inr fun j => (g j).map (mm_ad Z)))))) _ _) = _
  rw [vp_cell_q, vp_cell_q, arrV_store]
  congr 2
  funext q
  by_cases hq : q = i.toNatClampNeg
  · subst hq
    simp [updV, va_up, va_rf, e9]
  · simp [updV, va_up, hq]
theorem mk_return (C : mm_Ok Z M X) (hc : mm_cd M pc = some (.return_, npc, a, b, wd)) (hk : k ≤ mc) (hw : w ≤ ms) (hty : M.2.2.2.1 = none) (hf : hB n (some c) Q) : mG Z M X k w mc ms Q (pc, lv, [], (n, c)) := by
  obtain ⟨c', h1, h2⟩ := hf
  cases h1
  exact mg_return C hc hk hw hty h2
theorem mk_new {idx N : Nat} {Cn : String} {T : u_T} {f : mm_C → Option mm_C} (C : mm_Ok Z M X) (hc : mm_cd M pc = some (.new idx, npc, a, b, wd)) (hcl : mm_cl[a]? = some (Cn, T, N)) (hw : wd = .classLink M.1.cls idx Cn) (hin : Cond.instantiable Cn N ∈ mm_tbl) (hini : Cond.initialized Cn ∈ mm_tbl) (hfs : ∀ j, j < N → defaultValue (mm_ty a j) = vp_V (dfl a) j)
    (hRm : mt_R X = mm_rm d mc ms) (hk : k + 1 ≤ mc) (hw' : w + N ≤ ms) (hn : n < 1000000) (hf : hB m (Option.bind (mkO c n a) f) Q) (kk : ∀ c', hB m (f c') Q → mG Z M X (k + 1) (w + N) mc ms Q (npc, lv, .ref n :: st, (n + 1, c'))) : mG Z M X k w mc ms Q (pc, lv, st, (n, c)) :=
  mg_new C hc hcl hw hin hini hfs hRm hk hw' hn (kk _ hf)
theorem mk_newI {len : Int32} {N : Nat} {at_ : ArrayType} {ty : FieldType} {ti : Nat} {f : mm_C → Option mm_C} (C : mm_Ok Z M X) (hc : mm_cd M pc = some (.newarray at_, npc, a, b, wd)) (hty : newarray.typeOf at_ = ty) (hti : mm_types[ti]? = some ty) (harr : Cond.arrayClass ty ∈ mm_tbl) (hk3 : ty = .int ∨ ty = .byte ∨ ty = .boolean)
    (hn0 : ¬ len < 0) (hN : len.toNatClampNeg = N) (hby : N * 4 ≤ 536870912) (hRm : mt_R X = mm_rm d mc ms) (hk : k + 1 ≤ mc) (hw' : w + N ≤ ms) (hn : n < 1000000) (hf : hB m (Option.bind (mkA c n ty N) f) Q) (kk : ∀ c', hB m (f c') Q → mG Z M X (k + 1) (w + N) mc ms Q (npc, lv, .ref n :: st, (n + 1, c'))) : mG Z M X k w mc ms Q (pc, lv, .int len :: st, (n, c)) := by
  refine mg_newarray (z := (N, .inl fun _ => 0)) C hc hty hti harr (fun cl => ?_) (fun U cl h => ?_) hn0 hN ?_ hRm hk hw' hn (kk _ hf)
  · rcases hk3 with h | h | h <;> subst h <;> rfl
  · rcases hk3 with q | q | q <;> subst q <;> exact h
  · rcases hk3 with h | h | h <;> subst h
    · exact hby
    · exact Nat.le_trans (Nat.mul_le_mul_left N (by decide : (1 : Nat) ≤ 4)) hby
    · exact Nat.le_trans (Nat.mul_le_mul_left N (by decide : (1 : Nat) ≤ 4)) hby
theorem mk_newR {idx ti : Nat} {Cn : String} {len : Int32} {N : Nat} {f : mm_C → Option mm_C} (C : mm_Ok Z M X) (hc : mm_cd M pc = some (.anewarray idx, npc, a, b, wd)) (hw : wd = .classLink M.1.cls idx Cn) (hao : mm_N (mt_s X) → va_AO Cn (mt_s X)) (hti : mm_types[ti]? = some (.object Cn))
    (hn0 : ¬ len < 0) (hN : len.toNatClampNeg = N) (hby : N * 4 ≤ 536870912) (hRm : mt_R X = mm_rm d mc ms) (hk : k + 1 ≤ mc) (hw' : w + N ≤ ms) (hn : n < 1000000) (hf : hB m (Option.bind (mkR c n Cn N) f) Q) (kk : ∀ c', hB m (f c') Q → mG Z M X (k + 1) (w + N) mc ms Q (npc, lv, .ref n :: st, (n + 1, c'))) : mG Z M X k w mc ms Q (pc, lv, .int len :: st, (n, c)) :=
  mg_anewarray C hc hw (hao C.2.2.2.2.2.2.2.2.2.1.2.2.2.2.2.2.2.2) hti hn0 hN hby hRm hk hw' hn (kk _ hf)
theorem mk_mna {idx : Nat} {len kl : Int32} {N K : Nat} {f : mm_C → Option mm_C} (C : mm_Ok Z M X) (hc : mm_cd M pc = some (.multianewarray idx 2, npc, a, b, wd)) (hw : wd = .classLink M.1.cls idx "[[I") (harr : Cond.arrayClass .int ∈ mm_tbl)
    (hn0 : ¬ len < 0) (hk0 : ¬ kl < 0) (hN : len.toNatClampNeg = N) (hK0 : kl.toNatClampNeg = K) (hby : N * 4 ≤ 536870912) (hby2 : K * 4 ≤ 536870912) (hRm : mt_R X = mm_rm d mc ms) (hk : k + (1 + N) ≤ mc) (hw' : w + (N + N * K) ≤ ms) (hn : n + 1 + N ≤ 1000000) (hf : hB m (Option.bind (mkM c n N K) f) Q) (kk : ∀ c', hB m (f c') Q → mG Z M X (k + 1 + N) (w + N + N * K) mc ms Q (npc, lv, .ref n :: st, (n + 1 + N, c'))) : mG Z M X k w mc ms Q (pc, lv, .int kl :: .int len :: st, (n, c)) := by
  have hkk := kk _ hf
  intro H locs ls hR hS hl
  have hR : mm_Rel Z (n, c) H := hR
  obtain ⟨hx, hb, hml, hr, hhs, hown, hnm, hlk, hts, hK, hB1, hB2, hg⟩ := C
  obtain ⟨hd, hp, hbr, hwd⟩ := hg _ _ _ _ _ _ hc
  simp only [mm_len] at hp hd
  subst hp hw
  have hlink := mm_wd hts hwd (by simp)
  subst hN hK0
  intro T hT Xs
  obtain ⟨vm₁, cA, comp, -, fA, fC, hO, -, X', step⟩ := Xs.multianewarray2F (ty := .int) hx hown hlink (show (Cond.arrayOver (.array .int)).before _ _ = true from hK.2.2.2.2.2.2.2.2.2.2.2.2.2.2.2) (hts _ harr) (g := F0 (mt_m X) pc ls (.int kl :: .int len :: st.map (mm_tr Z))) rfl (by rw [hb]; exact hd) rfl hn0 hk0 hby hby2 (by omega) rfl rfl (by rw [hRm]; exact hk) (by rw [hRm]; exact hw')
  have ec : comp = Z.2.2.2.2 .int := Option.some.inj (fC.symm.trans (hK.1.2 0 _ (mm_tysat Z rfl)).2)
  have eA : cA = Z.2.2.2.2 (.array .int) := Option.some.inj (fA.symm.trans (hK.1.2 7 _ (mm_tysat Z rfl)).2)
  subst ec eA
  generalize hF : Jvm.Free.Multi.fill (T.setVm vm₁) (Z.2.2.2.2 (.array .int)) (Z.2.2.2.2 .int) len.toNatClampNeg kl.toNatClampNeg (defaultValue .int) len.toNatClampNeg = F at X' step
  have hTh : (T.setVm vm₁).heap = H := hT
  obtain ⟨f1, f2, -, -⟩ := Jvm.Free.Multi.fill_facts (T.setVm vm₁) (Z.2.2.2.2 (.array .int)) (Z.2.2.2.2 .int) len.toNatClampNeg kl.toNatClampNeg (defaultValue .int) len.toNatClampNeg
  rw [hF, hTh] at f1 f2
  have hold : ∀ x : Nat, x < H.size → F.heap[x]? = H[x]? := fun x hx => by
    have := Jvm.Free.Multi.fill_old (T.setVm vm₁) (Z.2.2.2.2 (.array .int)) (Z.2.2.2.2 .int) len.toNatClampNeg kl.toNatClampNeg (defaultValue .int) (a := x) (by rw [hTh]; exact hx) len.toNatClampNeg
    rw [hF, hTh] at this
    exact this
  have hrow : ∀ j : Nat, j < len.toNatClampNeg → F.heap[H.size + 1 + j]? = some (vp_cell (Z.2.2.2.2 .int) (kl.toNatClampNeg, .inl fun _ => 0)) := fun j hj => by
    have := Jvm.Free.Multi.fill_inner (T.setVm vm₁) (Z.2.2.2.2 (.array .int)) (Z.2.2.2.2 .int) len.toNatClampNeg kl.toNatClampNeg (defaultValue .int) len.toNatClampNeg j hj
    rw [hF, hTh] at this
    rw [this]
    have h9 : vp_cell (Z.2.2.2.2 .int) (kl.toNatClampNeg, .inl fun _ => 0) = arrV (Z.2.2.2.2 .int) kl.toNatClampNeg (fun _ => defaultValue .int) := rfl
    rw [h9]
    exact congrArg some (mn_inner _ _ _)
  have hout : Jvm.Free.Multi.outerC (Z.2.2.2.2 (.array .int)) len.toNatClampNeg H.size len.toNatClampNeg = vp_cell (Z.2.2.2.2 (.array .int)) (len.toNatClampNeg, .inr (.inr (.inr (.inr (fun i => if i < len.toNatClampNeg then some (H.size + 1 + i) else none))))) := by
    rw [vp_cell_q]
    exact vr_outer (Z.2.2.2.2 (.array .int)) len.toNatClampNeg H.size len.toNatClampNeg
  rw [hout] at f2
  have hz : H.size = mm_B Z + n := hR.1
  have hRel : mm_Rel Z (n + 1 + len.toNatClampNeg, cmna c n len.toNatClampNeg kl.toNatClampNeg) F.heap := by
    obtain ⟨r1, r2, r3, r4⟩ := hR
    refine ⟨by rw [f1, hz]; show _ = mm_B Z + (n + 1 + len.toNatClampNeg); omega, hn, fun q hq => by rw [hold q (by omega)]; exact r3 q hq, fun j e' hj => ?_⟩
    have hj : cmna c n len.toNatClampNeg kl.toNatClampNeg j = some e' := hj
    show j < n + 1 + len.toNatClampNeg ∧ _
    unfold cmna at hj
    by_cases h1 : j = n
    · subst h1
      rw [if_pos rfl] at hj
      cases hj
      refine ⟨by omega, ?_⟩
      show F.heap[mm_B Z + j]? = some (vp_cell (Z.2.2.2.2 (.array .int)) (len.toNatClampNeg, .inr (.inr (.inr (.inr (fun i => (if i < len.toNatClampNeg then some (j + 1 + i) else none).map (mm_ad Z)))))))
      rw [← hz, f2]
      congr 7
      funext i
      by_cases hi : i < len.toNatClampNeg
      · rw [if_pos hi, if_pos hi]
        show some _ = some (mm_ad Z (j + 1 + i))
        rw [mm_ad_lt Z (by omega), hz]
        congr 1
        show mm_B Z + j + 1 + i = mm_B Z + (j + 1 + i)
        omega
      · rw [if_neg hi, if_neg hi]; rfl
    · rw [if_neg h1] at hj
      by_cases h2 : n < j ∧ j ≤ n + len.toNatClampNeg
      · rw [if_pos h2] at hj
        cases hj
        refine ⟨by omega, ?_⟩
        show F.heap[mm_B Z + j]? = some (vp_cell (Z.2.2.2.2 .int) (kl.toNatClampNeg, .inl fun _ => 0))
        have := hrow (j - n - 1) (by omega)
        rw [show H.size + 1 + (j - n - 1) = mm_B Z + j by omega] at this
        exact this
      · rw [if_neg h2] at hj
        obtain ⟨q1, q2⟩ := r4 j e' hj
        have q1 : j < n := q1
        exact ⟨by omega, q2.kept (hold _ (by show mm_B Z + j < H.size; omega))⟩
  have hS1 : va_S (fun q => mm_B Z ≤ q) (mt_s X).heap F.heap locs := ⟨Nat.le_trans hS.1 (by rw [f1]; omega), fun x h1 h2 => (hold x (Nat.lt_of_lt_of_le h1 hS.1)).trans (hS.2.1 x h1 h2), hS.2.2⟩
  have h9 := hkk F.heap locs ls hRel hS1 hl
  have e9 : mm_ad Z n = H.size := by rw [mm_ad_lt Z (by omega), hz]
  simp only [List.map_cons, mm_tr_ref, e9] at h9
  obtain ⟨t, a1, b1⟩ := h9 F rfl X'
  exact ⟨t, step t (by rw [hT]; exact a1), b1⟩
/-- a constructor is called -/
theorem mk_cI {idx o m0 : Nat} {x : Option mm_C} {f : mm_C → Option mm_C} (C : mm_Ok Z M X) (hc : mm_cd M pc = some (.invokespecial idx, npc, a, b, wd)) (hw : wd = .methodLink M.1.cls idx M'.1) (hcal : mm_cal M' m0) (hin : Cond.instanceMethod M'.1 ∈ mm_tbl) (hini : M'.1.name = "<init>") (hret : M'.2.2.2.1 = none)
    (hRm : mt_R X = mm_rm d mc ms) (hdd : d' + 1 ≤ d) (hL : M'.2.2.1 ≤ 21) (hk : k + mc' ≤ mc) (hw' : w + ms' ≤ ms) (hn : as.length = m0) (hst : st = as.reverse ++ .ref o :: rest) (hrest : (rest.map fun v => v.category).sum ≤ 8)
    (hf : hB m (Option.bind x f) Q) (call : x.isSome = true → mC Z M' d' mc' ms' (.ref o :: as) (n, c) (mB m' x))
    (kk : ∀ c', hB m (f c') Q → mG Z M X (k + mc') (w + ms') mc ms Q (npc, lv, rest, (m', c'))) : mG Z M X k w mc ms Q (pc, lv, st, (n, c)) := by
  obtain ⟨v, e, hg⟩ := hB_bind hf
  refine mg_special C hc hw hcal hin hini hret hRm hdd hL hk hw' (call (by rw [e]; rfl)) ?_ hn hst hrest ?_
  · rintro ci h' ⟨c', -, q, -⟩; cases q
  · rintro u h' ⟨c', q1, q2, rfl⟩
    cases q2
    cases e.symm.trans q1
    exact kk _ hg
theorem mk_cN {idx o m0 : Nat} {host : String} {x : Option mm_C} {f : mm_C → Option mm_C} (C : mm_Ok Z M X) (hc : mm_cd M pc = some (.invokespecial idx, npc, a, b, wd)) (hw : (M.1.cls, idx, M'.1, host) ∈ mm_nl) (hcal : mm_cal M' m0) (hin : Cond.instanceMethod M'.1 ∈ mm_tbl) (hini : M'.1.name = "<init>") (hret : M'.2.2.2.1 = none)
    (hRm : mt_R X = mm_rm d mc ms) (hdd : d' + 1 ≤ d) (hL : M'.2.2.1 ≤ 21) (hk : k + mc' ≤ mc) (hw' : w + ms' ≤ ms) (hn : as.length = m0) (hst : st = as.reverse ++ .ref o :: rest) (hrest : (rest.map fun v => v.category).sum ≤ 8)
    (hf : hB m (Option.bind x f) Q) (call : x.isSome = true → mC Z M' d' mc' ms' (.ref o :: as) (n, c) (mB m' x))
    (kk : ∀ c', hB m (f c') Q → mG Z M X (k + mc') (w + ms') mc ms Q (npc, lv, rest, (m', c'))) : mG Z M X k w mc ms Q (pc, lv, st, (n, c)) := by
  obtain ⟨v, e, hg⟩ := hB_bind hf
  refine mg_specialN C hc hw hcal hin hini hret hRm hdd hL hk hw' (call (by rw [e]; rfl)) ?_ hn hst hrest ?_
  · rintro ci h' ⟨c', -, q, -⟩; cases q
  · rintro u h' ⟨c', q1, q2, rfl⟩
    cases q2
    cases e.symm.trans q1
    exact kk _ hg
end HC
