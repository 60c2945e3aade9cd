theorem st_pos : ∀ i, i < 37 → 0 < mm_sl.getD i 0 := by decide +kernel
set_option maxRecDepth 100000 in
theorem mt_ini0 : Cond.initialized "java/lang/IllegalArgumentException" ∈ mm_tbl := mm_in 126 (by decide +kernel) rfl
set_option maxRecDepth 100000 in
theorem mt_ini1 : Cond.initialized "java/util/NoSuchElementException" ∈ mm_tbl := mm_in 134 (by decide +kernel) rfl
/-! WHAT A METHOD DOES, as a function of the small heap's contents: none (it goes wrong), or an answer or an exception, and the contents behind it -/
abbrev mm_C : Type := Nat → Option mm_E
abbrev mR (α : Type) : Type := Option ((α ⊕ Nat) × mm_C)
def ovI (x : Int32) : Option Value := some (.int x)
def ovL (x : Int64) : Option Value := some (.long x)
def ovU (_ : Unit) : Option Value := none
def ovR (x : Nat) : Option Value := some (.ref x)
def cup (c : mm_C) (k : Nat) (e : mm_E) : mm_C := fun j => if j = k then some e else c j
def gI (c : mm_C) (o a b : Nat) : Option Int32 := match c o with
  | some (.inr (a', fs)) => if a' = a then (match fs[b]? with | some (.int x) => some x | _ => none) else none
  | _ => none
def gR (c : mm_C) (o a b : Nat) : Option Nat := match c o with
  | some (.inr (a', fs)) => if a' = a then (match fs[b]? with | some (.ref x) => some x | _ => none) else none
  | _ => none
def pV (c : mm_C) (o a b : Nat) (v : Value) : Option mm_C := match c o with
  | some (.inr (a', fs)) => if a' = a ∧ b < fs.length then some (cup c o (.inr (a, fs.set b v))) else none
  | _ => none
def pI (c : mm_C) (o a b : Nat) (x : Int32) : Option mm_C := pV c o a b (.int x)
def pZ (c : mm_C) (o a b : Nat) (x : Int32) : Option mm_C := if x = 0 ∨ x = 1 then pV c o a b (.int x) else none
def pR (c : mm_C) (o a b : Nat) (x : Nat) : Option mm_C := pV c o a b (.ref x)
abbrev inA (i : Int32) (n : Nat) : Prop := ¬ (i < 0 ∨ n ≤ i.toNatClampNeg)
def aI (c : mm_C) (o : Nat) (i : Int32) : Option Int32 := match c o with
  | some (.inl (.int, n, .inl f)) => if inA i n then some (f i.toNatClampNeg) else none
  | _ => none
def aB (c : mm_C) (o : Nat) (i : Int32) : Option Int32 := match c o with
  | some (.inl (.byte, n, .inl f)) => if inA i n then some (f i.toNatClampNeg) else none
  | _ => none
def aZ (c : mm_C) (o : Nat) (i : Int32) : Option Int32 := match c o with
  | some (.inl (.boolean, n, .inl f)) => if inA i n then some (f i.toNatClampNeg) else none
  | _ => none
def aL (c : mm_C) (o : Nat) (i : Int32) : Option Int64 := match c o with
  | some (.inl (.long, n, .inr (.inl f))) => if inA i n then some (f i.toNatClampNeg) else none
  | _ => none
def aR (ty : FieldType) (c : mm_C) (o : Nat) (i : Int32) : Option Nat := match c o with
  | some (.inl (ty', n, .inr (.inr (.inr (.inr f))))) => if ty' = ty ∧ inA i n then f i.toNatClampNeg else none
  | _ => none
def tI (c : mm_C) (o : Nat) (i x : Int32) : Option mm_C := match c o with
  | some (.inl (.int, n, .inl f)) => if inA i n then some (cup c o (.inl (.int, n, .inl (upd f i.toNatClampNeg x)))) else none
  | _ => none
def tB (c : mm_C) (o : Nat) (i x : Int32) : Option mm_C := match c o with
  | some (.inl (.byte, n, .inl f)) => if inA i n then some (cup c o (.inl (.byte, n, .inl (upd f i.toNatClampNeg (vp_nar .byte x))))) else none
  | _ => none
def tZ (c : mm_C) (o : Nat) (i x : Int32) : Option mm_C := match c o with
  | some (.inl (.boolean, n, .inl f)) => if inA i n then some (cup c o (.inl (.boolean, n, .inl (upd f i.toNatClampNeg (vp_nar .boolean x))))) else none
  | _ => none
def tL (c : mm_C) (o : Nat) (i : Int32) (x : Int64) : Option mm_C := match c o with
  | some (.inl (.long, n, .inr (.inl f))) => if inA i n then some (cup c o (.inl (.long, n, .inr (.inl (vp_updL f i.toNatClampNeg x))))) else none
  | _ => none
def isO (c : mm_C) (o ci : Nat) : Bool := match c o with
  | some (.inr (a', _)) => a' == ci
  | _ => false
def tR (cn : String) (ci : Nat) (c : mm_C) (o : Nat) (i : Int32) (r : Nat) : Option mm_C := match c o with
  | some (.inl (ty, n, .inr (.inr (.inr (.inr f))))) => if ty = .object cn ∧ inA i n ∧ isO c r ci = true then some (cup c o (.inl (.object cn, n, .inr (.inr (.inr (.inr (va_up f i.toNatClampNeg (some r)))))))) else none
  | _ => none
def aN (c : mm_C) (o : Nat) : Option Int32 := match c o with
  | some (.inl (ty, x)) => if ty ∈ mm_types then some (Int32.ofNat x.1) else none
  | _ => none
def dvI (x y : Int32) : Option Int32 := if y = 0 then none else some (x / y)
def rmI (x y : Int32) : Option Int32 := if y = 0 then none else some (x - x / y * y)
def dvL (x y : Int64) : Option Int64 := if y = 0 then none else some (x / y)
def rmL (x y : Int64) : Option Int64 := if y = 0 then none else some (x - x / y * y)
def mnI (x y : Int32) : Int32 := if y < x then y else x
def mxI (x y : Int32) : Int32 := if x < y then y else x
def rZ (x : Int32) (c : mm_C) : mR Int32 := if x = 0 ∨ x = 1 then some (.inl x, c) else none
def sLn (o : Nat) : Option Int32 := if 1000000 ≤ o ∧ o < 1000037 then some (nI (mm_sl.getD (o - 1000000) 0)) else none
def sCh (o : Nat) (i : Int32) : Option Int32 := if 1000000 ≤ o ∧ o < 1000037 ∧ inA i (mm_sl.getD (o - 1000000) 0) then some ((mm_sb.getD (o - 1000000) []).getD i.toNatClampNeg 0) else none
def sIx (o : Nat) (q : Int32) : Option Int32 := if 1000000 ≤ o ∧ o < 1000037 ∧ inA q 256 then some (st_ix (mm_sb.getD (o - 1000000) []) q.toInt8.toInt32 0 (mm_sl.getD (o - 1000000) 0)) else none
def cpA (ty : FieldType) (c : mm_C) (o0 : Nat) (sp : Int32) (o1 : Nat) (dp n : Int32) : Option mm_C := match c o0, c o1 with
  | some (.inl (t0, n0, .inl f)), some (.inl (t1, n1, .inl g)) => if t0 = ty ∧ t1 = ty ∧ ¬ sp < 0 ∧ ¬ dp < 0 ∧ ¬ n < 0 ∧ sp.toNatClampNeg + n.toNatClampNeg ≤ n0 ∧ dp.toNatClampNeg + n.toNatClampNeg ≤ n1 ∧ (∀ i, i < n.toNatClampNeg → fits ty (.int (f (sp.toNatClampNeg + i))) = true) then some (cup c o1 (.inl (ty, n1, .inl (va_cpy f g sp.toNatClampNeg dp.toNatClampNeg n.toNatClampNeg)))) else none
  | _, _ => none
/-- behind a call -/
def cS {α β : Type} (x : mR α) (f : α → mm_C → mR β) : mR β := match x with
  | none => none
  | some (.inl v, c) => f v c
  | some (.inr e, c) => some (.inr e, c)
/-- a call on an object, which has the class -/
def cV {α β : Type} (ci o : Nat) (c : mm_C) (x : mR α) (f : α → mm_C → mR β) : mR β := if isO c o ci = true then cS x f else none
/-- a call whose exceptions are caught -/
def cX {α β : Type} (ci o : Nat) (c : mm_C) (x : mR α) (f : α → mm_C → mR β) (g : Nat → mm_C → mR β) : mR β := if isO c o ci = true then (match x with
  | none => none
  | some (.inl v, c) => f v c
  | some (.inr e, c) => g e c) else none
/-- the end that a run comes to meets Q, whatever cells nobody names were made -/
def hO (t : Nat) {α : Type} (ov : α → Option Value) (n : Nat) (r : mR α) (Q : mm_O → mm_H → Prop) : Prop := ∃ a c', r = some (a, c') ∧ match a with
  | .inl v => ∀ n', n ≤ n' → n' ≤ n + t → Q (.inl (ov v)) (n', c')
  | .inr ci => ∀ n', n ≤ n' → n' ≤ n + t + 1 → Q (.inr ci) (n', c')
def mP (t : Nat) {α : Type} (ov : α → Option Value) (n : Nat) (r : mR α) : mm_O → mm_H → Prop := fun o h' => ∃ a c', r = some (a, c') ∧ h'.2 = c' ∧ n ≤ h'.1 ∧ match a with
  | .inl v => o = .inl (ov v) ∧ h'.1 ≤ n + t
  | .inr ci => o = .inr ci ∧ h'.1 ≤ n + t + 1
theorem hO_mP (t : Nat) {α : Type} (ov : α → Option Value) (n : Nat) {r : mR α} (h : r.isSome = true) : hO t ov n r (mP t ov n r) := by
  cases r with
  | none => cases h
  | some p =>
    obtain ⟨a, c⟩ := p
    refine ⟨a, c, rfl, ?_⟩
    cases a with
    | inl v => exact fun n' h1 h2 => ⟨_, c, rfl, rfl, h1, rfl, h2⟩
    | inr e => exact fun n' h1 h2 => ⟨_, c, rfl, rfl, h1, rfl, h2⟩
theorem hO_none {t : Nat} {α : Type} {ov : α → Option Value} {n : Nat} {Q : mm_O → mm_H → Prop} : ¬ hO t ov n none Q := by
  rintro ⟨_, _, h, _⟩
  cases h
section HF
variable {Z : mm_Z} {M M' : mm_M} {X : mm_T} {k w mc ms d n t : Nat} {Q : mm_O → mm_H → Prop} {pc npc a b : Nat} {wd : Cond} {lv : mm_V} {st rest as : List Value} {c : mm_C} {α β : Type} {ov : β → Option Value} {ov' : α → Option Value}
theorem hO_bind {x : Option α} {f : α → mR β} (h : hO t ov n (Option.bind x f) Q) : ∃ v, x = some v ∧ hO t ov n (f v) Q := by
  cases x with
  | none => exact absurd h hO_none
  | some v => exact ⟨v, rfl, h⟩
theorem hO_inl {v : β} (h : hO t ov n (some (.inl v, c)) Q) : Q (.inl (ov v)) (n, c) := by
  obtain ⟨a, c', h1, h2⟩ := h
  cases h1
  exact h2 n (Nat.le_refl _) (Nat.le_add_right _ _)
theorem hO_inr {e : Nat} (h : hO t ov n (some (.inr e, c)) Q) : ∀ n', n ≤ n' → n' ≤ n + 1 → Q (.inr e) (n', c) := by
  obtain ⟨a, c', h1, h2⟩ := h
  cases h1
  exact fun n' h3 h4 => h2 n' h3 (by omega)
theorem mh_gI {idx o N : Nat} {Cn : String} {T : u_T} {f : Int32 → mR β} (C : mm_Ok Z M X) (hc : mm_cd M pc = some (.getfield idx, npc, a, b, wd)) (hcl : mm_cl[a]? = some (Cn, T, N)) (hw : wd = .fieldLink M.1.cls idx (T b).1 (T b).2.1 (T b).2.2.1) (hbN : b < N) (hf : hO t ov n (Option.bind (gI c o a b) f) Q)
    (kk : ∀ x, hO t ov n (f x) Q → mG Z M X k w mc ms Q (npc, lv, .int x :: st, (n, c))) : mG Z M X k w mc ms Q (pc, lv, .ref o :: st, (n, c)) := by
  obtain ⟨x, e, hg⟩ := hO_bind hf
  unfold gI at e
  split at e
  · rename_i a' fs h0
    split at e
    · rename_i ha
      subst ha
      split at e
      · rename_i y h1
        cases e
        exact mg_getfield C hc hcl hw hbN h0 h1 (kk _ hg)
      · cases e
    · cases e
  · cases e
theorem mh_gR {idx o N : Nat} {Cn : String} {T : u_T} {f : Nat → mR β} (C : mm_Ok Z M X) (hc : mm_cd M pc = some (.getfield idx, npc, a, b, wd)) (hcl : mm_cl[a]? = some (Cn, T, N)) (hw : wd = .fieldLink M.1.cls idx (T b).1 (T b).2.1 (T b).2.2.1) (hbN : b < N) (hf : hO t ov n (Option.bind (gR c o a b) f) Q)
    (kk : ∀ x, hO t ov n (f x) Q → mG Z M X k w mc ms Q (npc, lv, .ref x :: st, (n, c))) : mG Z M X k w mc ms Q (pc, lv, .ref o :: st, (n, c)) := by
  obtain ⟨x, e, hg⟩ := hO_bind hf
  unfold gR at e
  split at e
  · rename_i a' fs h0
    split at e
    · rename_i ha
      subst ha
      split at e
      · rename_i y h1
        cases e
        exact mg_getfield C hc hcl hw hbN h0 h1 (kk _ hg)
      · cases e
    · cases e
  · cases e
theorem mh_pI {idx o N : Nat} {Cn : String} {T : u_T} {x : Int32} {f : mm_C → mR β} (C : mm_Ok Z M X) (hc : mm_cd M pc = some (.putfield idx, npc, a, b, wd)) (hcl : mm_cl[a]? = some (Cn, T, N)) (hw : wd = .fieldLink M.1.cls idx (T b).1 (T b).2.1 (T b).2.2.1) (hbN : b < N) (hfin : (T b).2.2.2 = false) (hn1 : narrow (mm_ty a b) (.int x) = .int x) (hf1 : fits (mm_ty a b) (.int x) = true) (hf : hO t ov n (Option.bind (pI c o a b x) f) Q)
    (kk : ∀ c', hO t ov n (f c') Q → mG Z M X k w mc ms Q (npc, lv, st, (n, c'))) : mG Z M X k w mc ms Q (pc, lv, .int x :: .ref o :: st, (n, c)) := by
  obtain ⟨c', e, hg⟩ := hO_bind hf
  unfold pI at e
  unfold pV at e
  split at e
  · rename_i a' fs h0
    split at e
    · rename_i ha
      obtain ⟨ha, hl⟩ := ha
      subst ha
      cases e
      exact mg_putfield C hc hcl hw hbN hfin h0 hl hn1 hf1 (kk _ hg)
    · cases e
  · cases e
theorem mh_pR {idx o N : Nat} {Cn : String} {T : u_T} {x : Nat} {f : mm_C → mR β} (C : mm_Ok Z M X) (hc : mm_cd M pc = some (.putfield idx, npc, a, b, wd)) (hcl : mm_cl[a]? = some (Cn, T, N)) (hw : wd = .fieldLink M.1.cls idx (T b).1 (T b).2.1 (T b).2.2.1) (hbN : b < N) (hfin : (T b).2.2.2 = false) (hn1 : narrow (mm_ty a b) (.ref x) = .ref x) (hf1 : fits (mm_ty a b) (.ref x) = true) (hf : hO t ov n (Option.bind (pR c o a b x) f) Q)
    (kk : ∀ c', hO t ov n (f c') Q → mG Z M X k w mc ms Q (npc, lv, st, (n, c'))) : mG Z M X k w mc ms Q (pc, lv, .ref x :: .ref o :: st, (n, c)) := by
  obtain ⟨c', e, hg⟩ := hO_bind hf
  unfold pR at e
  unfold pV at e
  split at e
  · rename_i a' fs h0
    split at e
    · rename_i ha
      obtain ⟨ha, hl⟩ := ha
      subst ha
      cases e
      exact mg_putfield C hc hcl hw hbN hfin h0 hl hn1 hf1 (kk _ hg)
    · cases e
  · cases e
theorem mh_pZ {idx o N : Nat} {Cn : String} {T : u_T} {x : Int32} {f : mm_C → mR β} (C : mm_Ok Z M X) (hc : mm_cd M pc = some (.putfield idx, npc, a, b, wd)) (hcl : mm_cl[a]? = some (Cn, T, N)) (hw : wd = .fieldLink M.1.cls idx (T b).1 (T b).2.1 (T b).2.2.1) (hbN : b < N) (hfin : (T b).2.2.2 = false) (hty : mm_ty a b = .boolean) (hf : hO t ov n (Option.bind (pZ c o a b x) f) Q)
    (kk : ∀ c', hO t ov n (f c') Q → mG Z M X k w mc ms Q (npc, lv, st, (n, c'))) : mG Z M X k w mc ms Q (pc, lv, .int x :: .ref o :: st, (n, c)) := by
  obtain ⟨c', e, hg⟩ := hO_bind hf
  unfold pZ at e
  split at e
  case isFalse => cases e
  rename_i hz
  unfold pV at e
  split at e
  · rename_i a' fs h0
    split at e
    · rename_i ha
      obtain ⟨ha, hl⟩ := ha
      subst ha
      cases e
      exact mg_putfield C hc hcl hw hbN hfin h0 hl (by rw [hty]; rcases hz with h | h <;> subst h <;> rfl) (by rw [hty]; rcases hz with h | h <;> subst h <;> rfl) (kk _ hg)
    · cases e
  · cases e
theorem mh_aI {o : Nat} {i : Int32} {f : Int32 → mR β} (C : mm_Ok Z M X) (hc : mm_cd M pc = some (.iaload, npc, a, b, wd)) (hf : hO t ov n (Option.bind (aI c o i) f) Q)
    (kk : ∀ x, hO t ov n (f x) Q → mG Z M X k w mc ms Q (npc, lv, .int x :: st, (n, c))) : mG Z M X k w mc ms Q (pc, lv, .int i :: .ref o :: st, (n, c)) := by
  obtain ⟨x, e, hg⟩ := hO_bind hf
  unfold aI at e
  split at e
  · rename_i n0 g h0
    split at e
    · rename_i hi
      cases e
      exact mg_iaload C hc h0 hi (kk _ hg)
    · cases e
  · cases e
theorem mh_aB {o : Nat} {i : Int32} {f : Int32 → mR β} (C : mm_Ok Z M X) (hc : mm_cd M pc = some (.baload, npc, a, b, wd)) (hf : hO t ov n (Option.bind (aB c o i) f) Q)
    (kk : ∀ x, hO t ov n (f x) Q → mG Z M X k w mc ms Q (npc, lv, .int x :: st, (n, c))) : mG Z M X k w mc ms Q (pc, lv, .int i :: .ref o :: st, (n, c)) := by
  obtain ⟨x, e, hg⟩ := hO_bind hf
  unfold aB at e
  split at e
  · rename_i n0 g h0
    split at e
    · rename_i hi
      cases e
      exact mg_baload C hc h0 hi (kk _ hg)
    · cases e
  · cases e
theorem mh_aZ {o : Nat} {i : Int32} {f : Int32 → mR β} (C : mm_Ok Z M X) (hc : mm_cd M pc = some (.baload, npc, a, b, wd)) (hf : hO t ov n (Option.bind (aZ c o i) f) Q)
    (kk : ∀ x, hO t ov n (f x) Q → mG Z M X k w mc ms Q (npc, lv, .int x :: st, (n, c))) : mG Z M X k w mc ms Q (pc, lv, .int i :: .ref o :: st, (n, c)) := by
  obtain ⟨x, e, hg⟩ := hO_bind hf
  unfold aZ at e
  split at e
  · rename_i n0 g h0
    split at e
    · rename_i hi
      cases e
      exact mg_zaload C hc h0 hi (kk _ hg)
    · cases e
  · cases e
theorem mh_aL {o : Nat} {i : Int32} {f : Int64 → mR β} (C : mm_Ok Z M X) (hc : mm_cd M pc = some (.laload, npc, a, b, wd)) (hf : hO t ov n (Option.bind (aL c o i) f) Q)
    (kk : ∀ x, hO t ov n (f x) Q → mG Z M X k w mc ms Q (npc, lv, .long x :: st, (n, c))) : mG Z M X k w mc ms Q (pc, lv, .int i :: .ref o :: st, (n, c)) := by
  obtain ⟨x, e, hg⟩ := hO_bind hf
  unfold aL at e
  split at e
  · rename_i n0 g h0
    split at e
    · rename_i hi
      cases e
      exact mg_laload C hc h0 hi (kk _ hg)
    · cases e
  · cases e
theorem mh_aR {o ti : Nat} {i : Int32} {ty : FieldType} {f : Nat → mR β} (C : mm_Ok Z M X) (hc : mm_cd M pc = some (.aaload, npc, a, b, wd)) (hti : mm_types[ti]? = some ty) (href : ty.isReference = true) (hf : hO t ov n (Option.bind (aR ty c o i) f) Q)
    (kk : ∀ x, hO t ov n (f x) Q → mG Z M X k w mc ms Q (npc, lv, .ref x :: st, (n, c))) : mG Z M X k w mc ms Q (pc, lv, .int i :: .ref o :: st, (n, c)) := by
  obtain ⟨x, e, hg⟩ := hO_bind hf
  unfold aR at e
  split at e
  · rename_i ty' n0 g h0
    split at e
    · rename_i hi
      obtain ⟨h1, hi⟩ := hi
      subst h1
      exact mg_aaload C hc h0 hti href hi e (kk _ hg)
    · cases e
  · cases e
theorem mh_tI {o : Nat} {i : Int32} {x : Int32} {f : mm_C → mR β} (C : mm_Ok Z M X) (hc : mm_cd M pc = some (.iastore, npc, a, b, wd)) (hf : hO t ov n (Option.bind (tI c o i x) f) Q)
    (kk : ∀ c', hO t ov n (f c') Q → mG Z M X k w mc ms Q (npc, lv, st, (n, c'))) : mG Z M X k w mc ms Q (pc, lv, .int x :: .int i :: .ref o :: st, (n, c)) := by
  obtain ⟨c', e, hg⟩ := hO_bind hf
  unfold tI at e
  split at e
  · rename_i n0 g h0
    split at e
    · rename_i hi
      cases e
      exact mg_iastore C hc h0 hi (kk _ hg)
    · cases e
  · cases e
theorem mh_tB {o : Nat} {i : Int32} {x : Int32} {f : mm_C → mR β} (C : mm_Ok Z M X) (hc : mm_cd M pc = some (.bastore, npc, a, b, wd)) (hf : hO t ov n (Option.bind (tB c o i x) f) Q)
    (kk : ∀ c', hO t ov n (f c') Q → mG Z M X k w mc ms Q (npc, lv, st, (n, c'))) : mG Z M X k w mc ms Q (pc, lv, .int x :: .int i :: .ref o :: st, (n, c)) := by
  obtain ⟨c', e, hg⟩ := hO_bind hf
  unfold tB at e
  split at e
  · rename_i n0 g h0
    split at e
    · rename_i hi
      cases e
      exact mg_bastore C hc h0 hi (kk _ hg)
    · cases e
  · cases e
theorem mh_tZ {o : Nat} {i : Int32} {x : Int32} {f : mm_C → mR β} (C : mm_Ok Z M X) (hc : mm_cd M pc = some (.bastore, npc, a, b, wd)) (hf : hO t ov n (Option.bind (tZ c o i x) f) Q)
    (kk : ∀ c', hO t ov n (f c') Q → mG Z M X k w mc ms Q (npc, lv, st, (n, c'))) : mG Z M X k w mc ms Q (pc, lv, .int x :: .int i :: .ref o :: st, (n, c)) := by
  obtain ⟨c', e, hg⟩ := hO_bind hf
  unfold tZ at e
  split at e
  · rename_i n0 g h0
    split at e
    · rename_i hi
      cases e
      exact mg_zastore C hc h0 hi (kk _ hg)
    · cases e
  · cases e
theorem mh_tL {o : Nat} {i : Int32} {x : Int64} {f : mm_C → mR β} (C : mm_Ok Z M X) (hc : mm_cd M pc = some (.lastore, npc, a, b, wd)) (hf : hO t ov n (Option.bind (tL c o i x) f) Q)
    (kk : ∀ c', hO t ov n (f c') Q → mG Z M X k w mc ms Q (npc, lv, st, (n, c'))) : mG Z M X k w mc ms Q (pc, lv, .long x :: .int i :: .ref o :: st, (n, c)) := by
  obtain ⟨c', e, hg⟩ := hO_bind hf
  unfold tL at e
  split at e
  · rename_i n0 g h0
    split at e
    · rename_i hi
      cases e
      exact mg_lastore C hc h0 hi (kk _ hg)
    · cases e
  · cases e
theorem isO_at {o ci : Nat} (h : isO c o ci = true) : ∃ fs, c o = some (.inr (ci, fs)) := by
  unfold isO at h
  split at h
  · rename_i a' fs h0
    exact ⟨fs, by rw [h0, eq_of_beq h]⟩
  · cases h
theorem isO_of {o ci : Nat} {fs : List Value} (h : c o = some (.inr (ci, fs))) : isO c o ci = true := by
  unfold isO
  rw [h]
  exact beq_self_eq_true ci
theorem mh_tR {o r ti ci N : Nat} {i : Int32} {Cn : String} {T : u_T} {f : mm_C → mR β} (C : mm_Ok Z M X) (hc : mm_cd M pc = some (.aastore, npc, a, b, wd)) (hti : mm_types[ti]? = some (.object Cn)) (hcl : mm_cl[ci]? = some (Cn, T, N)) (hf : hO t ov n (Option.bind (tR Cn ci c o i r) f) Q)
    (kk : ∀ c', hO t ov n (f c') Q → mG Z M X k w mc ms Q (npc, lv, st, (n, c'))) : mG Z M X k w mc ms Q (pc, lv, .ref r :: .int i :: .ref o :: st, (n, c)) := by
  obtain ⟨c', e, hg⟩ := hO_bind hf
  unfold tR at e
  split at e
  · rename_i ty n0 g h0
    split at e
    · rename_i hi
      obtain ⟨h1, hi, h2⟩ := hi
      subst h1
      cases e
      obtain ⟨fs, h3⟩ := isO_at h2
      exact mg_aastore C hc h0 hti h3 hcl hi (kk _ hg)
    · cases e
  · cases e
theorem mh_aN {o : Nat} {f : Int32 → mR β} (C : mm_Ok Z M X) (hc : mm_cd M pc = some (.arraylength, npc, a, b, wd)) (hf : hO t ov n (Option.bind (aN c o) f) Q)
    (kk : ∀ x, hO t ov n (f x) Q → mG Z M X k w mc ms Q (npc, lv, .int x :: st, (n, c))) : mG Z M X k w mc ms Q (pc, lv, .ref o :: st, (n, c)) := by
  obtain ⟨x, e, hg⟩ := hO_bind hf
  unfold aN at e
  split at e
  · rename_i ty y h0
    split at e
    · rename_i hi
      cases e
      obtain ⟨ti, hti⟩ := List.getElem?_of_mem hi
      exact mg_arraylength C hc h0 hti rfl (kk _ hg)
    · cases e
  · cases e
theorem mh_idiv {x y : Int32} {f : Int32 → mR β} (C : mm_Ok Z M X) (hc : mm_cd M pc = some (.idiv, npc, a, b, wd)) (hf : hO t ov n (Option.bind (dvI x y) f) Q)
    (kk : ∀ z, hO t ov n (f z) Q → mG Z M X k w mc ms Q (npc, lv, .int z :: st, (n, c))) : mG Z M X k w mc ms Q (pc, lv, .int y :: .int x :: st, (n, c)) := by
  obtain ⟨z, e, hg⟩ := hO_bind hf
  unfold dvI at e
  split at e
  · cases e
  · rename_i h0
    cases e
    exact mg_idiv C hc h0 (kk _ hg)
theorem mh_irem {x y : Int32} {f : Int32 → mR β} (C : mm_Ok Z M X) (hc : mm_cd M pc = some (.irem, npc, a, b, wd)) (hf : hO t ov n (Option.bind (rmI x y) f) Q)
    (kk : ∀ z, hO t ov n (f z) Q → mG Z M X k w mc ms Q (npc, lv, .int z :: st, (n, c))) : mG Z M X k w mc ms Q (pc, lv, .int y :: .int x :: st, (n, c)) := by
  obtain ⟨z, e, hg⟩ := hO_bind hf
  unfold rmI at e
  split at e
  · cases e
  · rename_i h0
    cases e
    exact mg_irem C hc h0 (kk _ hg)
theorem mh_ldiv {x y : Int64} {f : Int64 → mR β} (C : mm_Ok Z M X) (hc : mm_cd M pc = some (.ldiv, npc, a, b, wd)) (hf : hO t ov n (Option.bind (dvL x y) f) Q)
    (kk : ∀ z, hO t ov n (f z) Q → mG Z M X k w mc ms Q (npc, lv, .long z :: st, (n, c))) : mG Z M X k w mc ms Q (pc, lv, .long y :: .long x :: st, (n, c)) := by
  obtain ⟨z, e, hg⟩ := hO_bind hf
  unfold dvL at e
  split at e
  · cases e
  · rename_i h0
    cases e
    exact mg_ldiv C hc h0 (kk _ hg)
theorem mh_lrem {x y : Int64} {f : Int64 → mR β} (C : mm_Ok Z M X) (hc : mm_cd M pc = some (.lrem, npc, a, b, wd)) (hf : hO t ov n (Option.bind (rmL x y) f) Q)
    (kk : ∀ z, hO t ov n (f z) Q → mG Z M X k w mc ms Q (npc, lv, .long z :: st, (n, c))) : mG Z M X k w mc ms Q (pc, lv, .long y :: .long x :: st, (n, c)) := by
  obtain ⟨z, e, hg⟩ := hO_bind hf
  unfold rmL at e
  split at e
  · cases e
  · rename_i h0
    cases e
    exact mg_lrem C hc h0 (kk _ hg)
theorem mh_icmp_eq {off : Int} {x y : Int32} {A B : mR β} (C : mm_Ok Z M X) (hc : mm_cd M pc = some (.if_icmp .eq off, npc, a, b, wd)) (hf : hO t ov n (if x = y then A else B) Q) (kt : x = y → hO t ov n A Q → mG Z M X k w mc ms Q (a, lv, st, (n, c))) (kf : ¬ x = y → hO t ov n B Q → mG Z M X k w mc ms Q (npc, lv, st, (n, c))) : mG Z M X k w mc ms Q (pc, lv, .int y :: .int x :: st, (n, c)) :=
  mg_icmp_eq C hc (fun e => kt e (by rw [if_pos e] at hf; exact hf)) (fun e => kf e (by rw [if_neg e] at hf; exact hf))
theorem mh_if_eq {off : Int} {x : Int32} {A B : mR β} (C : mm_Ok Z M X) (hc : mm_cd M pc = some (.ifCond .eq off, npc, a, b, wd)) (hf : hO t ov n (if x = 0 then A else B) Q) (kt : x = 0 → hO t ov n A Q → mG Z M X k w mc ms Q (a, lv, st, (n, c))) (kf : ¬ x = 0 → hO t ov n B Q → mG Z M X k w mc ms Q (npc, lv, st, (n, c))) : mG Z M X k w mc ms Q (pc, lv, .int x :: st, (n, c)) :=
  mg_if_eq C hc (fun e => kt e (by rw [if_pos e] at hf; exact hf)) (fun e => kf e (by rw [if_neg e] at hf; exact hf))
theorem mh_icmp_ne {off : Int} {x y : Int32} {A B : mR β} (C : mm_Ok Z M X) (hc : mm_cd M pc = some (.if_icmp .ne off, npc, a, b, wd)) (hf : hO t ov n (if ¬ x = y then A else B) Q) (kt : ¬ x = y → hO t ov n A Q → mG Z M X k w mc ms Q (a, lv, st, (n, c))) (kf : x = y → hO t ov n B Q → mG Z M X k w mc ms Q (npc, lv, st, (n, c))) : mG Z M X k w mc ms Q (pc, lv, .int y :: .int x :: st, (n, c)) :=
  mg_icmp_ne C hc (fun e => kt e (by rw [if_pos e] at hf; exact hf)) (fun e => kf e (by rw [if_neg (fun q => q e)] at hf; exact hf))
theorem mh_if_ne {off : Int} {x : Int32} {A B : mR β} (C : mm_Ok Z M X) (hc : mm_cd M pc = some (.ifCond .ne off, npc, a, b, wd)) (hf : hO t ov n (if ¬ x = 0 then A else B) Q) (kt : ¬ x = 0 → hO t ov n A Q → mG Z M X k w mc ms Q (a, lv, st, (n, c))) (kf : x = 0 → hO t ov n B Q → mG Z M X k w mc ms Q (npc, lv, st, (n, c))) : mG Z M X k w mc ms Q (pc, lv, .int x :: st, (n, c)) :=
  mg_if_ne C hc (fun e => kt e (by rw [if_pos e] at hf; exact hf)) (fun e => kf e (by rw [if_neg (fun q => q e)] at hf; exact hf))
theorem mh_icmp_lt {off : Int} {x y : Int32} {A B : mR β} (C : mm_Ok Z M X) (hc : mm_cd M pc = some (.if_icmp .lt off, npc, a, b, wd)) (hf : hO t ov n (if x < y then A else B) Q) (kt : x < y → hO t ov n A Q → mG Z M X k w mc ms Q (a, lv, st, (n, c))) (kf : ¬ x < y → hO t ov n B Q → mG Z M X k w mc ms Q (npc, lv, st, (n, c))) : mG Z M X k w mc ms Q (pc, lv, .int y :: .int x :: st, (n, c)) :=
  mg_icmp_lt C hc (fun e => kt e (by rw [if_pos e] at hf; exact hf)) (fun e => kf e (by rw [if_neg e] at hf; exact hf))
theorem mh_if_lt {off : Int} {x : Int32} {A B : mR β} (C : mm_Ok Z M X) (hc : mm_cd M pc = some (.ifCond .lt off, npc, a, b, wd)) (hf : hO t ov n (if x < 0 then A else B) Q) (kt : x < 0 → hO t ov n A Q → mG Z M X k w mc ms Q (a, lv, st, (n, c))) (kf : ¬ x < 0 → hO t ov n B Q → mG Z M X k w mc ms Q (npc, lv, st, (n, c))) : mG Z M X k w mc ms Q (pc, lv, .int x :: st, (n, c)) :=
  mg_if_lt C hc (fun e => kt e (by rw [if_pos e] at hf; exact hf)) (fun e => kf e (by rw [if_neg e] at hf; exact hf))
theorem mh_icmp_ge {off : Int} {x y : Int32} {A B : mR β} (C : mm_Ok Z M X) (hc : mm_cd M pc = some (.if_icmp .ge off, npc, a, b, wd)) (hf : hO t ov n (if y ≤ x then A else B) Q) (kt : y ≤ x → hO t ov n A Q → mG Z M X k w mc ms Q (a, lv, st, (n, c))) (kf : ¬ y ≤ x → hO t ov n B Q → mG Z M X k w mc ms Q (npc, lv, st, (n, c))) : mG Z M X k w mc ms Q (pc, lv, .int y :: .int x :: st, (n, c)) :=
  mg_icmp_ge C hc (fun e => kt e (by rw [if_pos e] at hf; exact hf)) (fun e => kf e (by rw [if_neg e] at hf; exact hf))
theorem mh_if_ge {off : Int} {x : Int32} {A B : mR β} (C : mm_Ok Z M X) (hc : mm_cd M pc = some (.ifCond .ge off, npc, a, b, wd)) (hf : hO t ov n (if 0 ≤ x then A else B) Q) (kt : 0 ≤ x → hO t ov n A Q → mG Z M X k w mc ms Q (a, lv, st, (n, c))) (kf : ¬ 0 ≤ x → hO t ov n B Q → mG Z M X k w mc ms Q (npc, lv, st, (n, c))) : mG Z M X k w mc ms Q (pc, lv, .int x :: st, (n, c)) :=
  mg_if_ge C hc (fun e => kt e (by rw [if_pos e] at hf; exact hf)) (fun e => kf e (by rw [if_neg e] at hf; exact hf))
theorem mh_icmp_gt {off : Int} {x y : Int32} {A B : mR β} (C : mm_Ok Z M X) (hc : mm_cd M pc = some (.if_icmp .gt off, npc, a, b, wd)) (hf : hO t ov n (if y < x then A else B) Q) (kt : y < x → hO t ov n A Q → mG Z M X k w mc ms Q (a, lv, st, (n, c))) (kf : ¬ y < x → hO t ov n B Q → mG Z M X k w mc ms Q (npc, lv, st, (n, c))) : mG Z M X k w mc ms Q (pc, lv, .int y :: .int x :: st, (n, c)) :=
  mg_icmp_gt C hc (fun e => kt e (by rw [if_pos e] at hf; exact hf)) (fun e => kf e (by rw [if_neg e] at hf; exact hf))
theorem mh_if_gt {off : Int} {x : Int32} {A B : mR β} (C : mm_Ok Z M X) (hc : mm_cd M pc = some (.ifCond .gt off, npc, a, b, wd)) (hf : hO t ov n (if 0 < x then A else B) Q) (kt : 0 < x → hO t ov n A Q → mG Z M X k w mc ms Q (a, lv, st, (n, c))) (kf : ¬ 0 < x → hO t ov n B Q → mG Z M X k w mc ms Q (npc, lv, st, (n, c))) : mG Z M X k w mc ms Q (pc, lv, .int x :: st, (n, c)) :=
  mg_if_gt C hc (fun e => kt e (by rw [if_pos e] at hf; exact hf)) (fun e => kf e (by rw [if_neg e] at hf; exact hf))
theorem mh_icmp_le {off : Int} {x y : Int32} {A B : mR β} (C : mm_Ok Z M X) (hc : mm_cd M pc = some (.if_icmp .le off, npc, a, b, wd)) (hf : hO t ov n (if x ≤ y then A else B) Q) (kt : x ≤ y → hO t ov n A Q → mG Z M X k w mc ms Q (a, lv, st, (n, c))) (kf : ¬ x ≤ y → hO t ov n B Q → mG Z M X k w mc ms Q (npc, lv, st, (n, c))) : mG Z M X k w mc ms Q (pc, lv, .int y :: .int x :: st, (n, c)) :=
  mg_icmp_le C hc (fun e => kt e (by rw [if_pos e] at hf; exact hf)) (fun e => kf e (by rw [if_neg e] at hf; exact hf))
theorem mh_if_le {off : Int} {x : Int32} {A B : mR β} (C : mm_Ok Z M X) (hc : mm_cd M pc = some (.ifCond .le off, npc, a, b, wd)) (hf : hO t ov n (if x ≤ 0 then A else B) Q) (kt : x ≤ 0 → hO t ov n A Q → mG Z M X k w mc ms Q (a, lv, st, (n, c))) (kf : ¬ x ≤ 0 → hO t ov n B Q → mG Z M X k w mc ms Q (npc, lv, st, (n, c))) : mG Z M X k w mc ms Q (pc, lv, .int x :: st, (n, c)) :=
  mg_if_le C hc (fun e => kt e (by rw [if_pos e] at hf; exact hf)) (fun e => kf e (by rw [if_neg e] at hf; exact hf))
theorem mh_case {x v : Int32} {A B : mR β} {P : Prop} (hf : hO t ov n (if x = v then A else B) Q) (kt : x = v → hO t ov n A Q → P) (kf : ¬ x = v → hO t ov n B Q → P) : P := by
  by_cases e : x = v
  · rw [if_pos e] at hf; exact kt e hf
  · rw [if_neg e] at hf; exact kf e hf
theorem mh_catch {x v : Nat} {A B : mR β} {P : Prop} (hf : hO t ov n (if x = v then A else B) Q) (kt : x = v → hO t ov n A Q → P) (kf : hO t ov n B Q → P) : P := by
  by_cases e : x = v
  · rw [if_pos e] at hf; exact kt e hf
  · rw [if_neg e] at hf; exact kf hf
theorem mh_ireturn {x : Int32} (C : mm_Ok Z M X) (hc : mm_cd M pc = some (.ireturn, npc, a, b, wd)) (hk : k ≤ mc) (hw : w ≤ ms) (hty : M.2.2.2.1 = some .int) (hf : hO t ovI n (some (.inl x, c)) Q) : mG Z M X k w mc ms Q (pc, lv, [.int x], (n, c)) := mg_ireturn C hc hk hw hty (hO_inl (ov := ovI) hf)
theorem mh_zreturn {x : Int32} (C : mm_Ok Z M X) (hc : mm_cd M pc = some (.ireturn, npc, a, b, wd)) (hk : k ≤ mc) (hw : w ≤ ms) (hty : M.2.2.2.1 = some .boolean) (hf : hO t ovI n (rZ x c) Q) : mG Z M X k w mc ms Q (pc, lv, [.int x], (n, c)) := by
  unfold rZ at hf
  split at hf
  · rename_i h
    exact mg_zreturn C hc hk hw hty (by rcases h with h | h <;> subst h <;> rfl) (hO_inl (ov := ovI) hf)
  · exact absurd hf hO_none
theorem mh_lreturn {x : Int64} (C : mm_Ok Z M X) (hc : mm_cd M pc = some (.lreturn, npc, a, b, wd)) (hk : k ≤ mc) (hw : w ≤ ms) (hty : M.2.2.2.1 = some .long) (hf : hO t ovL n (some (.inl x, c)) Q) : mG Z M X k w mc ms Q (pc, lv, [.long x], (n, c)) := mg_lreturn C hc hk hw hty (hO_inl (ov := ovL) hf)
theorem mh_areturn {x : Nat} {cn : String} (C : mm_Ok Z M X) (hc : mm_cd M pc = some (.areturn, npc, a, b, wd)) (hk : k ≤ mc) (hw : w ≤ ms) (hty : M.2.2.2.1 = some (.object cn)) (hf : hO t ovR n (some (.inl x, c)) Q) : mG Z M X k w mc ms Q (pc, lv, [.ref x], (n, c)) := mg_areturn C hc hk hw hty (hO_inl (ov := ovR) hf)
theorem mh_return (C : mm_Ok Z M X) (hc : mm_cd M pc = some (.return_, npc, a, b, wd)) (hk : k ≤ mc) (hw : w ≤ ms) (hty : M.2.2.2.1 = none) (hf : hO t ovU n (some (.inl (), c)) Q) : mG Z M X k w mc ms Q (pc, lv, [], (n, c)) := mg_return C hc hk hw hty (hO_inl (ov := ovU) hf)
theorem mh_mnI {idx : Nat} {x y : Int32} (C : mm_Ok Z M X) (hc : mm_cd M pc = some (.invokestatic idx, npc, a, b, wd)) (hw : wd = .methodLink M.1.cls idx qJ9_min_7cf53.1) (hRm : mt_R X = mm_rm d mc ms) (hd : 1 ≤ d ∧ k ≤ mc ∧ w ≤ ms) (hrest : (st.map fun v => v.category).sum ≤ 8)
    (kk : mG Z M X k w mc ms Q (npc, lv, .int (mnI x y) :: st, (n, c))) : mG Z M X k w mc ms Q (pc, lv, .int y :: .int x :: st, (n, c)) :=
  mg_invokestatic (M' := qJ9_min_7cf53) (as := [.int x, .int y]) C hc hw aJ9_min_7cf53 tJ9_min_7cf53 hRm (d' := 0) (mc' := 0) (ms' := 0) hd.1 (by decide) hd.2.1 hd.2.2 (vJ9_min Z (n, c) x y) rfl rfl hrest (fun ci h' hq => absurd hq.1 (by simp)) (fun v h' hq => by
    obtain ⟨e1, e2⟩ := hq
    cases e1
    subst e2
    exact kk)
theorem mh_mxI {idx : Nat} {x y : Int32} (C : mm_Ok Z M X) (hc : mm_cd M pc = some (.invokestatic idx, npc, a, b, wd)) (hw : wd = .methodLink M.1.cls idx qJ9_max_7cf53.1) (hRm : mt_R X = mm_rm d mc ms) (hd : 1 ≤ d ∧ k ≤ mc ∧ w ≤ ms) (hrest : (st.map fun v => v.category).sum ≤ 8)
    (kk : mG Z M X k w mc ms Q (npc, lv, .int (mxI x y) :: st, (n, c))) : mG Z M X k w mc ms Q (pc, lv, .int y :: .int x :: st, (n, c)) :=
  mg_invokestatic (M' := qJ9_max_7cf53) (as := [.int x, .int y]) C hc hw aJ9_max_7cf53 tJ9_max_7cf53 hRm (d' := 0) (mc' := 0) (ms' := 0) hd.1 (by decide) hd.2.1 hd.2.2 (vJ9_max Z (n, c) x y) rfl rfl hrest (fun ci h' hq => absurd hq.1 (by simp)) (fun v h' hq => by
    obtain ⟨e1, e2⟩ := hq
    cases e1
    subst e2
    exact kk)
theorem mh_sLn {idx o : Nat} {f : Int32 → mR β} (C : mm_Ok Z M X) (hc : mm_cd M pc = some (.invokevirtual idx, npc, a, b, wd)) (hw : wd = .methodLink M.1.cls idx qJ0_length_8abf5.1) (hRm : mt_R X = mm_rm d mc ms) (hd : 5 ≤ d) (hrest : (st.map fun v => v.category).sum ≤ 8) (hk : k ≤ mc) (hw' : w ≤ ms) (hf : hO t ov n (Option.bind (sLn o) f) Q)
    (kk : ∀ x, hO t ov n (f x) Q → mG Z M X k w mc ms Q (npc, lv, .int x :: st, (n, c))) : mG Z M X k w mc ms Q (pc, lv, .ref o :: st, (n, c)) := by
  obtain ⟨x, e, hg⟩ := hO_bind hf
  unfold sLn at e
  split at e
  case isFalse => cases e
  rename_i h0
  obtain ⟨i, rfl⟩ : ∃ i, o = 1000000 + i := ⟨o - 1000000, by omega⟩
  rw [Nat.add_sub_cancel_left] at e
  cases e
  exact mg_onString (M' := qJ0_length_8abf5) (as := []) C hc hw rfl aJ0_length_8abf5 iJ0_length_8abf5 sJ0_length_8abf5 hRm (d' := 1) (mc' := 0) (ms' := 0) (by omega) (by decide) hk hw' (vJ0_length Z (n, c) i (by omega)) rfl rfl hrest (by omega) (fun ci h' hq => absurd hq.1 (by simp)) (fun v h' hq => by
    obtain ⟨e1, e2⟩ := hq
    cases e1
    subst e2
    exact kk _ hg)
theorem mh_sCh {idx o : Nat} {j : Int32} {f : Int32 → mR β} (C : mm_Ok Z M X) (hc : mm_cd M pc = some (.invokevirtual idx, npc, a, b, wd)) (hw : wd = .methodLink M.1.cls idx qJ0_charAt_5068e.1) (hRm : mt_R X = mm_rm d mc ms) (hd : 5 ≤ d) (hrest : (st.map fun v => v.category).sum ≤ 8) (hk : k ≤ mc) (hw' : w ≤ ms) (hf : hO t ov n (Option.bind (sCh o j) f) Q)
    (kk : ∀ x, hO t ov n (f x) Q → mG Z M X k w mc ms Q (npc, lv, .int x :: st, (n, c))) : mG Z M X k w mc ms Q (pc, lv, .int j :: .ref o :: st, (n, c)) := by
  obtain ⟨x, e, hg⟩ := hO_bind hf
  unfold sCh at e
  split at e
  case isFalse => cases e
  rename_i h0
  obtain ⟨i, rfl⟩ : ∃ i, o = 1000000 + i := ⟨o - 1000000, by omega⟩
  rw [Nat.add_sub_cancel_left] at e h0
  obtain ⟨-, h1, h2⟩ := h0
  cases e
  unfold inA at h2
  obtain ⟨m, h31, rfl⟩ := nI_of (fun q => h2 (Or.inl q))
  have hm : m < mm_sl.getD i 0 := Nat.lt_of_not_le fun q => h2 (Or.inr (by rw [nI_clamp h31]; exact q))
  rw [nI_clamp h31] at hg
  exact mg_onString (M' := qJ0_charAt_5068e) (as := [.int (nI m)]) C hc hw rfl aJ0_charAt_5068e iJ0_charAt_5068e sJ0_charAt_5068e hRm (d' := 3) (mc' := 0) (ms' := 0) (by omega) (by decide) hk hw' (vJ0_charAt Z (n, c) i m (by omega) hm) rfl rfl hrest (by omega) (fun ci h' hq => absurd hq.1 (by simp)) (fun v h' hq => by
    obtain ⟨e1, e2⟩ := hq
    cases e1
    subst e2
    exact kk _ hg)
theorem mh_sIx {idx o : Nat} {j : Int32} {f : Int32 → mR β} (C : mm_Ok Z M X) (hc : mm_cd M pc = some (.invokevirtual idx, npc, a, b, wd)) (hw : wd = .methodLink M.1.cls idx qJ0_indexOf_0f7a4.1) (hRm : mt_R X = mm_rm d mc ms) (hd : 5 ≤ d) (hrest : (st.map fun v => v.category).sum ≤ 8) (hk : k ≤ mc) (hw' : w ≤ ms) (hf : hO t ov n (Option.bind (sIx o j) f) Q)
    (kk : ∀ x, hO t ov n (f x) Q → mG Z M X k w mc ms Q (npc, lv, .int x :: st, (n, c))) : mG Z M X k w mc ms Q (pc, lv, .int j :: .ref o :: st, (n, c)) := by
  obtain ⟨x, e, hg⟩ := hO_bind hf
  unfold sIx at e
  split at e
  case isFalse => cases e
  rename_i h0
  obtain ⟨i, rfl⟩ : ∃ i, o = 1000000 + i := ⟨o - 1000000, by omega⟩
  rw [Nat.add_sub_cancel_left] at e
  obtain ⟨-, h1, h2⟩ := h0
  cases e
  unfold inA at h2
  obtain ⟨m, h31, rfl⟩ := nI_of (fun q => h2 (Or.inl q))
  have hm : m < 256 := Nat.lt_of_not_le fun q => h2 (Or.inr (by rw [nI_clamp h31]; exact q))
  exact mg_onString (M' := qJ0_indexOf_0f7a4) (as := [.int (nI m)]) C hc hw rfl aJ0_indexOf_0f7a4 iJ0_indexOf_0f7a4 sJ0_indexOf_0f7a4 hRm (d' := 3) (mc' := 0) (ms' := 0) (by omega) (by decide) hk hw' (vJ0_indexOf Z (n, c) i m (by omega) hm (st_pos i (by omega))) rfl rfl hrest (by omega) (fun ci h' hq => absurd hq.1 (by simp)) (fun v h' hq => by
    obtain ⟨e1, e2⟩ := hq
    cases e1
    subst e2
    exact kk _ hg)
theorem mh_cpA {idx o0 o1 ti : Nat} {ty : FieldType} {sp dp m : Int32} {f : mm_C → mR β} (C : mm_Ok Z M X) (hc : mm_cd M pc = some (.invokestatic idx, npc, a, b, wd)) (hw : wd = .methodLink M.1.cls idx arraycopyName) (hti : mm_types[ti]? = some ty) (hprim : refKind ty = false) (hRm : mt_R X = mm_rm d mc ms) (hd : 1 ≤ d) (hrest : (st.map fun v => v.category).sum ≤ 8) (hf : hO t ov n (Option.bind (cpA ty c o0 sp o1 dp m) f) Q)
    (kk : ∀ c', hO t ov n (f c') Q → mG Z M X k w mc ms Q (npc, lv, st, (n, c'))) : mG Z M X k w mc ms Q (pc, lv, .int m :: .int dp :: .ref o1 :: .int sp :: .ref o0 :: st, (n, c)) := by
  obtain ⟨c', e, hg⟩ := hO_bind hf
  unfold cpA at e
  split at e
  · rename_i t0 n0 f0 t1 n1 g0 h0 h1
    split at e
    · rename_i hi
      obtain ⟨rfl, rfl, q1, q2, q3, q4, q5, q6⟩ := hi
      cases e
      exact mg_copy C hc hw wo_cpn wo_cps wo_sys hti hprim h0 h1 q1 q2 q3 q4 q5 q6 hRm hd hrest (kk _ hg)
    · cases e
  · cases e
theorem mh_throw0 {pc1 pc2 pc3 pc4 pc5 a0 b0 a1 b1 a2 b2 a3 b3 a4 b4 ik ic is : Nat} {wd1 wd2 wd4 : Cond} {il : Instr} (C : mm_Ok Z M X) (hc0 : mm_cd M pc = some (.new ik, pc1, a0, b0, .classLink M.1.cls ik "java/lang/IllegalArgumentException")) (hc1 : mm_cd M pc1 = some (.dup, pc2, a1, b1, wd1)) (hc2 : mm_cd M pc2 = some (il, pc3, a2, b2, wd2)) (hil : il = .ldc is ∨ il = .ldc_w is) (hc3 : mm_cd M pc3 = some (.invokespecial ic, pc4, a3, b3, .methodLink M.1.cls ic (Bundle.initS "java/lang/IllegalArgumentException"))) (hc4 : mm_cd M pc4 = some (.athrow, pc5, a4, b4, wd4))
    (hsr : ∃ q ∈ mm_sr, q.1 = M.1.cls ∧ q.2.1 = is) (hRm : mt_R X = mm_rm d mc ms) (hd : 6 ≤ d) (hk : k + 1 ≤ mc) (hw : w + 6 ≤ ms) (hrest : (st.map fun v => v.category).sum ≤ 8) (hout : M.2.2.2.2.1.all (fun r => !(decide (r.1 ≤ pc4) && decide (pc4 < r.2.1))) = true) (hn : n < 1000000)
    (hf : hO t ov n (some (.inr 0, c)) Q) : mG Z M X k w mc ms Q (pc, lv, st, (n, c)) := by
  obtain ⟨⟨q1, q2, q3, q4⟩, hq, rfl, rfl⟩ := hsr
  exact mg_throw (names := ["java/lang/Exception"]) (Yc := "java/lang/RuntimeException") (ix := 7) (bx := ⟨#[0x2a, 0x2b, 0xb7, 0x00, 0x07, 0xb1]⟩) C hc0 hc1 hc2 hil hc3 hc4 hq rfl (by decide +kernel) (by decide +kernel) (by decide +kernel) (by decide +kernel) (by decide +kernel) (by decide +kernel) (by decide +kernel) mt_ini0 mt_iae hRm hd (by decide) hk hw hrest hout hn (hO_inr hf)
theorem mh_throw1 {pc1 pc2 pc3 pc4 pc5 a0 b0 a1 b1 a2 b2 a3 b3 a4 b4 ik ic is : Nat} {wd1 wd2 wd4 : Cond} {il : Instr} (C : mm_Ok Z M X) (hc0 : mm_cd M pc = some (.new ik, pc1, a0, b0, .classLink M.1.cls ik "java/util/NoSuchElementException")) (hc1 : mm_cd M pc1 = some (.dup, pc2, a1, b1, wd1)) (hc2 : mm_cd M pc2 = some (il, pc3, a2, b2, wd2)) (hil : il = .ldc is ∨ il = .ldc_w is) (hc3 : mm_cd M pc3 = some (.invokespecial ic, pc4, a3, b3, .methodLink M.1.cls ic (Bundle.initS "java/util/NoSuchElementException"))) (hc4 : mm_cd M pc4 = some (.athrow, pc5, a4, b4, wd4))
    (hsr : ∃ q ∈ mm_sr, q.1 = M.1.cls ∧ q.2.1 = is) (hRm : mt_R X = mm_rm d mc ms) (hd : 6 ≤ d) (hk : k + 1 ≤ mc) (hw : w + 6 ≤ ms) (hrest : (st.map fun v => v.category).sum ≤ 8) (hout : M.2.2.2.2.1.all (fun r => !(decide (r.1 ≤ pc4) && decide (pc4 < r.2.1))) = true) (hn : n < 1000000)
    (hf : hO t ov n (some (.inr 1, c)) Q) : mG Z M X k w mc ms Q (pc, lv, st, (n, c)) := by
  obtain ⟨⟨q1, q2, q3, q4⟩, hq, rfl, rfl⟩ := hsr
  exact mg_throw (names := ["java/lang/Exception"]) (Yc := "java/lang/RuntimeException") (ix := 13) (bx := ⟨#[0x2a, 0x2b, 0xb7, 0x00, 0x0d, 0xb1]⟩) C hc0 hc1 hc2 hil hc3 hc4 hq rfl (by decide +kernel) (by decide +kernel) (by decide +kernel) (by decide +kernel) (by decide +kernel) (by decide +kernel) (by decide +kernel) mt_ini1 mt_nse hRm hd (by decide) hk hw hrest hout hn (hO_inr hf)
theorem cS_hO {x : mR α} {f : α → mm_C → mR β} (hf : hO t ov n (cS x f) Q) : x.isSome = true ∧ (∀ v c', x = some (.inl v, c') → hO t ov n (f v c') Q) ∧ (∀ e c', x = some (.inr e, c') → ∀ n', n ≤ n' → n' ≤ n + t + 1 → Q (.inr e) (n', c')) := by
  cases x with
  | none => exact absurd hf hO_none
  | some p =>
    obtain ⟨y, c'⟩ := p
    refine ⟨rfl, ?_, ?_⟩
    · intro v c1 h
      cases h
      exact hf
    · intro e c1 h
      cases h
      obtain ⟨a, c2, h1, h2⟩ := hf
      cases h1
      exact h2
theorem mh_cV {idx o ci N m : Nat} {T : u_T} {x : mR α} {f : α → mm_C → mR β} (C : mm_Ok Z M X) (hc : mm_cd M pc = some (.invokevirtual idx, npc, a, b, wd)) (hw : wd = .methodLink M.1.cls idx M'.1) (hcal : mm_cal M' m) (hin : Cond.instanceMethod M'.1 ∈ mm_tbl) (hse : Cond.selects M'.1.cls M'.1 M'.1 ∈ mm_tbl)
    (hRm : mt_R X = mm_rm d mc ms) (hdd : 1 ≤ d) (hL : M'.2.2.1 ≤ 21) (hk : k + 1 ≤ mc) (hw' : w + 6 ≤ ms) (hcl : mm_cl[ci]? = some (M'.1.cls, T, N)) (hn : as.length = m) (hst : st = as.reverse ++ .ref o :: rest) (hrest : (rest.map fun v => v.category).sum ≤ 8) (hout : M.2.2.2.2.1.all (fun r => !(decide (r.1 ≤ pc) && decide (pc < r.2.1))) = true)
    (hf : hO t ov n (cV ci o c x f) Q) (call : x.isSome = true → mC Z M' (d - 1) 1 6 (.ref o :: as) (n, c) (mP 0 ov' n x))
    (kk : ∀ v c', hO t ov n (f v c') Q → mG Z M X k w mc ms Q (npc, lv, (ov' v).toList ++ rest, (n, c'))) : mG Z M X k w mc ms Q (pc, lv, st, (n, c)) := by
  unfold cV at hf
  split at hf
  case isFalse => exact absurd hf hO_none
  rename_i hi
  obtain ⟨fs, ho⟩ := isO_at hi
  obtain ⟨hs, h1, h2⟩ := cS_hO hf
  refine mg_virt0 C hc hw hcal hin hse hRm (by omega) hL hk hw' (call hs) hn hst hrest ho hcl ?_ ?_ ?_
  · rintro e h' ⟨y, c', q1, q2, q3, q4⟩
    cases y with
    | inl v => cases q4.1
    | inr e' =>
      cases q4.1
      refine mx_out C hout hk hw' ?_
      have := h2 _ _ q1 h'.1 q3 (by omega)
      rw [← q2] at this
      exact this
  · rintro v h' ⟨y, c', q1, q2, q3, q4⟩
    cases y with
    | inl v' => exact Nat.le_antisymm q4.2 q3
    | inr e' => cases q4.1
  · rintro v h' ⟨y, c', q1, q2, q3, q4⟩
    cases y with
    | inl v' =>
      cases q4.1
      have e1 : h' = (n, c') := Prod.ext (Nat.le_antisymm q4.2 q3) q2
      rw [e1]
      exact kk _ _ (h1 _ _ q1)
    | inr e' => cases q4.1
theorem mh_cS {idx m : Nat} {x : mR α} {f : α → mm_C → mR β} (C : mm_Ok Z M X) (hc : mm_cd M pc = some (.invokestatic idx, npc, a, b, wd)) (hw : wd = .methodLink M.1.cls idx M'.1) (hcal : mm_cal M' m) (hsta : Cond.static M'.1 ∈ mm_tbl)
    (hRm : mt_R X = mm_rm d mc ms) (hdd : 1 ≤ d) (hL : M'.2.2.1 ≤ 21) (hk : k + 1 ≤ mc) (hw' : w + 6 ≤ ms) (hn : as.length = m) (hst : st = as.reverse ++ rest) (hrest : (rest.map fun v => v.category).sum ≤ 8) (hout : M.2.2.2.2.1.all (fun r => !(decide (r.1 ≤ pc) && decide (pc < r.2.1))) = true)
    (hf : hO t ov n (cS x f) Q) (call : x.isSome = true → mC Z M' (d - 1) 1 6 as (n, c) (mP 0 ov' n x))
    (kk : ∀ v c', hO t ov n (f v c') Q → mG Z M X k w mc ms Q (npc, lv, (ov' v).toList ++ rest, (n, c'))) : mG Z M X k w mc ms Q (pc, lv, st, (n, c)) := by
  obtain ⟨hs, h1, h2⟩ := cS_hO hf
  refine mg_stat0 C hc hw hcal hsta hRm (by omega) hL hk hw' (call hs) hn hst hrest ?_ ?_ ?_
  · rintro e h' ⟨y, c', q1, q2, q3, q4⟩
    cases y with
    | inl v => cases q4.1
    | inr e' =>
      cases q4.1
      refine mx_out C hout hk hw' ?_
      have := h2 _ _ q1 h'.1 q3 (by omega)
      rw [← q2] at this
      exact this
  · rintro v h' ⟨y, c', q1, q2, q3, q4⟩
    cases y with
    | inl v' => exact Nat.le_antisymm q4.2 q3
    | inr e' => cases q4.1
  · rintro v h' ⟨y, c', q1, q2, q3, q4⟩
    cases y with
    | inl v' =>
      cases q4.1
      have e1 : h' = (n, c') := Prod.ext (Nat.le_antisymm q4.2 q3) q2
      rw [e1]
      exact kk _ _ (h1 _ _ q1)
    | inr e' => cases q4.1
theorem mh_cVI {idx o ci N m : Nat} {T : u_T} {x : mR Int32} {f : Int32 → mm_C → mR β} (C : mm_Ok Z M X) (hc : mm_cd M pc = some (.invokevirtual idx, npc, a, b, wd)) (hw : wd = .methodLink M.1.cls idx M'.1) (hcal : mm_cal M' m) (hin : Cond.instanceMethod M'.1 ∈ mm_tbl) (hse : Cond.selects M'.1.cls M'.1 M'.1 ∈ mm_tbl)
    (hRm : mt_R X = mm_rm d mc ms) (hdd : 1 ≤ d) (hL : M'.2.2.1 ≤ 21) (hk : k + 1 ≤ mc) (hw' : w + 6 ≤ ms) (hcl : mm_cl[ci]? = some (M'.1.cls, T, N)) (hn : as.length = m) (hst : st = as.reverse ++ .ref o :: rest) (hrest : (rest.map fun v => v.category).sum ≤ 8) (hout : M.2.2.2.2.1.all (fun r => !(decide (r.1 ≤ pc) && decide (pc < r.2.1))) = true)
    (hf : hO t ov n (cV ci o c x f) Q) (call : x.isSome = true → mC Z M' (d - 1) 1 6 (.ref o :: as) (n, c) (mP 0 ovI n x))
    (kk : ∀ (v : Int32) (c' : mm_C), hO t ov n (f v c') Q → mG Z M X k w mc ms Q (npc, lv, .int v :: rest, (n, c'))) : mG Z M X k w mc ms Q (pc, lv, st, (n, c)) := mh_cV C hc hw hcal hin hse hRm hdd hL hk hw' hcl hn hst hrest hout hf call (fun v c' h => kk v c' h)
theorem mh_cSI {idx m : Nat} {x : mR Int32} {f : Int32 → mm_C → mR β} (C : mm_Ok Z M X) (hc : mm_cd M pc = some (.invokestatic idx, npc, a, b, wd)) (hw : wd = .methodLink M.1.cls idx M'.1) (hcal : mm_cal M' m) (hsta : Cond.static M'.1 ∈ mm_tbl)
    (hRm : mt_R X = mm_rm d mc ms) (hdd : 1 ≤ d) (hL : M'.2.2.1 ≤ 21) (hk : k + 1 ≤ mc) (hw' : w + 6 ≤ ms) (hn : as.length = m) (hst : st = as.reverse ++ rest) (hrest : (rest.map fun v => v.category).sum ≤ 8) (hout : M.2.2.2.2.1.all (fun r => !(decide (r.1 ≤ pc) && decide (pc < r.2.1))) = true)
    (hf : hO t ov n (cS x f) Q) (call : x.isSome = true → mC Z M' (d - 1) 1 6 as (n, c) (mP 0 ovI n x))
    (kk : ∀ (v : Int32) (c' : mm_C), hO t ov n (f v c') Q → mG Z M X k w mc ms Q (npc, lv, .int v :: rest, (n, c'))) : mG Z M X k w mc ms Q (pc, lv, st, (n, c)) := mh_cS C hc hw hcal hsta hRm hdd hL hk hw' hn hst hrest hout hf call (fun v c' h => kk v c' h)
theorem mh_cVL {idx o ci N m : Nat} {T : u_T} {x : mR Int64} {f : Int64 → mm_C → mR β} (C : mm_Ok Z M X) (hc : mm_cd M pc = some (.invokevirtual idx, npc, a, b, wd)) (hw : wd = .methodLink M.1.cls idx M'.1) (hcal : mm_cal M' m) (hin : Cond.instanceMethod M'.1 ∈ mm_tbl) (hse : Cond.selects M'.1.cls M'.1 M'.1 ∈ mm_tbl)
    (hRm : mt_R X = mm_rm d mc ms) (hdd : 1 ≤ d) (hL : M'.2.2.1 ≤ 21) (hk : k + 1 ≤ mc) (hw' : w + 6 ≤ ms) (hcl : mm_cl[ci]? = some (M'.1.cls, T, N)) (hn : as.length = m) (hst : st = as.reverse ++ .ref o :: rest) (hrest : (rest.map fun v => v.category).sum ≤ 8) (hout : M.2.2.2.2.1.all (fun r => !(decide (r.1 ≤ pc) && decide (pc < r.2.1))) = true)
    (hf : hO t ov n (cV ci o c x f) Q) (call : x.isSome = true → mC Z M' (d - 1) 1 6 (.ref o :: as) (n, c) (mP 0 ovL n x))
    (kk : ∀ (v : Int64) (c' : mm_C), hO t ov n (f v c') Q → mG Z M X k w mc ms Q (npc, lv, .long v :: rest, (n, c'))) : mG Z M X k w mc ms Q (pc, lv, st, (n, c)) := mh_cV C hc hw hcal hin hse hRm hdd hL hk hw' hcl hn hst hrest hout hf call (fun v c' h => kk v c' h)
theorem mh_cSL {idx m : Nat} {x : mR Int64} {f : Int64 → mm_C → mR β} (C : mm_Ok Z M X) (hc : mm_cd M pc = some (.invokestatic idx, npc, a, b, wd)) (hw : wd = .methodLink M.1.cls idx M'.1) (hcal : mm_cal M' m) (hsta : Cond.static M'.1 ∈ mm_tbl)
    (hRm : mt_R X = mm_rm d mc ms) (hdd : 1 ≤ d) (hL : M'.2.2.1 ≤ 21) (hk : k + 1 ≤ mc) (hw' : w + 6 ≤ ms) (hn : as.length = m) (hst : st = as.reverse ++ rest) (hrest : (rest.map fun v => v.category).sum ≤ 8) (hout : M.2.2.2.2.1.all (fun r => !(decide (r.1 ≤ pc) && decide (pc < r.2.1))) = true)
    (hf : hO t ov n (cS x f) Q) (call : x.isSome = true → mC Z M' (d - 1) 1 6 as (n, c) (mP 0 ovL n x))
    (kk : ∀ (v : Int64) (c' : mm_C), hO t ov n (f v c') Q → mG Z M X k w mc ms Q (npc, lv, .long v :: rest, (n, c'))) : mG Z M X k w mc ms Q (pc, lv, st, (n, c)) := mh_cS C hc hw hcal hsta hRm hdd hL hk hw' hn hst hrest hout hf call (fun v c' h => kk v c' h)
theorem mh_cVR {idx o ci N m : Nat} {T : u_T} {x : mR Nat} {f : Nat → mm_C → mR β} (C : mm_Ok Z M X) (hc : mm_cd M pc = some (.invokevirtual idx, npc, a, b, wd)) (hw : wd = .methodLink M.1.cls idx M'.1) (hcal : mm_cal M' m) (hin : Cond.instanceMethod M'.1 ∈ mm_tbl) (hse : Cond.selects M'.1.cls M'.1 M'.1 ∈ mm_tbl)
    (hRm : mt_R X = mm_rm d mc ms) (hdd : 1 ≤ d) (hL : M'.2.2.1 ≤ 21) (hk : k + 1 ≤ mc) (hw' : w + 6 ≤ ms) (hcl : mm_cl[ci]? = some (M'.1.cls, T, N)) (hn : as.length = m) (hst : st = as.reverse ++ .ref o :: rest) (hrest : (rest.map fun v => v.category).sum ≤ 8) (hout : M.2.2.2.2.1.all (fun r => !(decide (r.1 ≤ pc) && decide (pc < r.2.1))) = true)
    (hf : hO t ov n (cV ci o c x f) Q) (call : x.isSome = true → mC Z M' (d - 1) 1 6 (.ref o :: as) (n, c) (mP 0 ovR n x))
    (kk : ∀ (v : Nat) (c' : mm_C), hO t ov n (f v c') Q → mG Z M X k w mc ms Q (npc, lv, .ref v :: rest, (n, c'))) : mG Z M X k w mc ms Q (pc, lv, st, (n, c)) := mh_cV C hc hw hcal hin hse hRm hdd hL hk hw' hcl hn hst hrest hout hf call (fun v c' h => kk v c' h)
theorem mh_cSR {idx m : Nat} {x : mR Nat} {f : Nat → mm_C → mR β} (C : mm_Ok Z M X) (hc : mm_cd M pc = some (.invokestatic idx, npc, a, b, wd)) (hw : wd = .methodLink M.1.cls idx M'.1) (hcal : mm_cal M' m) (hsta : Cond.static M'.1 ∈ mm_tbl)
    (hRm : mt_R X = mm_rm d mc ms) (hdd : 1 ≤ d) (hL : M'.2.2.1 ≤ 21) (hk : k + 1 ≤ mc) (hw' : w + 6 ≤ ms) (hn : as.length = m) (hst : st = as.reverse ++ rest) (hrest : (rest.map fun v => v.category).sum ≤ 8) (hout : M.2.2.2.2.1.all (fun r => !(decide (r.1 ≤ pc) && decide (pc < r.2.1))) = true)
    (hf : hO t ov n (cS x f) Q) (call : x.isSome = true → mC Z M' (d - 1) 1 6 as (n, c) (mP 0 ovR n x))
    (kk : ∀ (v : Nat) (c' : mm_C), hO t ov n (f v c') Q → mG Z M X k w mc ms Q (npc, lv, .ref v :: rest, (n, c'))) : mG Z M X k w mc ms Q (pc, lv, st, (n, c)) := mh_cS C hc hw hcal hsta hRm hdd hL hk hw' hn hst hrest hout hf call (fun v c' h => kk v c' h)
theorem mh_cVU {idx o ci N m : Nat} {T : u_T} {x : mR Unit} {f : Unit → mm_C → mR β} (C : mm_Ok Z M X) (hc : mm_cd M pc = some (.invokevirtual idx, npc, a, b, wd)) (hw : wd = .methodLink M.1.cls idx M'.1) (hcal : mm_cal M' m) (hin : Cond.instanceMethod M'.1 ∈ mm_tbl) (hse : Cond.selects M'.1.cls M'.1 M'.1 ∈ mm_tbl)
    (hRm : mt_R X = mm_rm d mc ms) (hdd : 1 ≤ d) (hL : M'.2.2.1 ≤ 21) (hk : k + 1 ≤ mc) (hw' : w + 6 ≤ ms) (hcl : mm_cl[ci]? = some (M'.1.cls, T, N)) (hn : as.length = m) (hst : st = as.reverse ++ .ref o :: rest) (hrest : (rest.map fun v => v.category).sum ≤ 8) (hout : M.2.2.2.2.1.all (fun r => !(decide (r.1 ≤ pc) && decide (pc < r.2.1))) = true)
    (hf : hO t ov n (cV ci o c x f) Q) (call : x.isSome = true → mC Z M' (d - 1) 1 6 (.ref o :: as) (n, c) (mP 0 ovU n x))
    (kk : ∀ c', hO t ov n (f () c') Q → mG Z M X k w mc ms Q (npc, lv, rest, (n, c'))) : mG Z M X k w mc ms Q (pc, lv, st, (n, c)) := mh_cV C hc hw hcal hin hse hRm hdd hL hk hw' hcl hn hst hrest hout hf call (fun _ c' h => kk c' h)
theorem mh_cSU {idx m : Nat} {x : mR Unit} {f : Unit → mm_C → mR β} (C : mm_Ok Z M X) (hc : mm_cd M pc = some (.invokestatic idx, npc, a, b, wd)) (hw : wd = .methodLink M.1.cls idx M'.1) (hcal : mm_cal M' m) (hsta : Cond.static M'.1 ∈ mm_tbl)
    (hRm : mt_R X = mm_rm d mc ms) (hdd : 1 ≤ d) (hL : M'.2.2.1 ≤ 21) (hk : k + 1 ≤ mc) (hw' : w + 6 ≤ ms) (hn : as.length = m) (hst : st = as.reverse ++ rest) (hrest : (rest.map fun v => v.category).sum ≤ 8) (hout : M.2.2.2.2.1.all (fun r => !(decide (r.1 ≤ pc) && decide (pc < r.2.1))) = true)
    (hf : hO t ov n (cS x f) Q) (call : x.isSome = true → mC Z M' (d - 1) 1 6 as (n, c) (mP 0 ovU n x))
    (kk : ∀ c', hO t ov n (f () c') Q → mG Z M X k w mc ms Q (npc, lv, rest, (n, c'))) : mG Z M X k w mc ms Q (pc, lv, st, (n, c)) := mh_cS C hc hw hcal hsta hRm hdd hL hk hw' hn hst hrest hout hf call (fun _ c' h => kk c' h)
end HF
