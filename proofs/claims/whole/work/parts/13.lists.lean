/-! rows of numbers as lists; many cells written at once -/
abbrev gl (l : List Int32) : Nat → Int32 := fun k => l.getD k 0
abbrev la (l : List Int32) : vp_A := (l.length, .inl (gl l))
theorem gl_upd {l : List Int32} {i : Nat} (hi : i < l.length) (x : Int32) : upd (gl l) i x = gl (l.set i x) := by
  funext k
  unfold upd gl
  rw [List.getD_eq_getElem?_getD, List.getD_eq_getElem?_getD, List.getElem?_set]
  by_cases hk : k = i
  · subst hk; simp [hi]
  · simp [hk, Ne.symm hk]
theorem gl_cpy {l m : List Int32} {n : Nat} (hl : l.length = n) (hm : m.length = n) : va_cpy (gl l) (gl m) 0 0 n = gl l := by
  funext k
  unfold va_cpy
  by_cases hk : k < n
  · rw [if_pos ⟨Nat.zero_le k, by omega⟩]; simp
  · rw [if_neg (by omega)]
    unfold gl
    rw [List.getD_eq_getElem?_getD, List.getD_eq_getElem?_getD, List.getElem?_eq_none (by omega), List.getElem?_eq_none (by omega)]
theorem gl_rep (n : Nat) : (fun _ => (0 : Int32)) = gl (List.replicate n 0) := by
  funext k
  unfold gl
  rw [List.getD_eq_getElem?_getD, List.getElem?_replicate]
  split <;> rfl
def ups (h : mm_H) (L : List (Nat × mm_E)) : mm_H := (h.1, fun j => match L.find? (fun q => q.1 == j) with
  | some q => some q.2
  | none => h.2 j)
def has (h : mm_H) (L : List (Nat × mm_E)) : Prop := ∀ q ∈ L, h.2 q.1 = some q.2
theorem ups_ne {h : mm_H} {L : List (Nat × mm_E)} {k : Nat} (hk : ∀ q ∈ L, q.1 ≠ k) : (ups h L).2 k = h.2 k := by
  unfold ups
  have : L.find? (fun q => q.1 == k) = none := List.find?_eq_none.mpr fun q hq => by simpa using hk q hq
  simp only [this]
theorem ups_eq {h h' : mm_H} {L : List (Nat × mm_E)} (h1 : h'.1 = h.1) (h2 : has h' L) (h3 : ∀ k, (∀ q ∈ L, q.1 ≠ k) → h'.2 k = h.2 k) : h' = ups h L := by
  obtain ⟨n, f⟩ := h'
  unfold ups
  refine Prod.ext h1 (funext fun k => ?_)
  show f k = (match L.find? (fun q => q.1 == k) with
    | some q => some q.2
    | none => h.2 k)
  cases hf : L.find? (fun q => q.1 == k) with
  | some q =>
    have e : q.1 = k := by simpa using List.find?_some hf
    have := h2 q (List.mem_of_find?_eq_some hf)
    rw [e] at this
    exact this
  | none => exact h3 k fun q hq => by simpa using List.find?_eq_none.mp hf q hq
section ML
variable {Z : mm_Z} {M : mm_M} {X : mm_T} {k w mc ms : Nat} {Q : mm_O → mm_H → Prop} {pc npc a b : Nat} {wd : Cond} {lv : mm_V} {st : List Value} {h : mm_H}
theorem mg_ialoadL {o i : Nat} {l : List Int32} (C : mm_Ok Z M X) (hc : mm_cd M pc = some (.iaload, npc, a, b, wd)) (hh : h.2 o = some (.inl (.int, la l))) (hi : i < l.length) (hl : i < 2 ^ 31)
    (kk : mG Z M X k w mc ms Q (npc, lv, .int (l.getD i 0) :: st, h)) : mG Z M X k w mc ms Q (pc, lv, .int (nI i) :: .ref o :: st, h) := by
  refine mg_iaload C hc hh ?_ ?_
  · intro q
    rcases q with q | q
    · exact nI_pos hl q
    · rw [nI_clamp hl] at q; omega
  · rw [nI_clamp hl]; exact kk
theorem mg_iastoreL {o i : Nat} {x : Int32} {l : List Int32} (C : mm_Ok Z M X) (hc : mm_cd M pc = some (.iastore, npc, a, b, wd)) (hh : h.2 o = some (.inl (.int, la l))) (hi : i < l.length) (hl : i < 2 ^ 31)
    (kk : mG Z M X k w mc ms Q (npc, lv, st, mm_up h o (.inl (.int, la (l.set i x))))) : mG Z M X k w mc ms Q (pc, lv, .int x :: .int (nI i) :: .ref o :: st, h) := by
  refine mg_iastore C hc hh ?_ ?_
  · intro q
    rcases q with q | q
    · exact nI_pos hl q
    · rw [nI_clamp hl] at q; omega
  · rw [nI_clamp hl, gl_upd hi]
    have e : (l.set i x).length = l.length := List.length_set
    rw [← e]
    exact kk
theorem mg_copyL {idx o0 o1 m d : Nat} {l0 l1 : List Int32} {n : Int32} (C : mm_Ok Z M X) (hc : mm_cd M pc = some (.invokestatic idx, npc, a, b, wd)) (hw : wd = .methodLink M.1.cls idx arraycopyName) (hn : n = nI m) (hm : m < 2 ^ 31) (h0 : l0.length = m) (h1 : l1.length = m) (ho0 : h.2 o0 = some (.inl (.int, la l0))) (ho1 : h.2 o1 = some (.inl (.int, la l1)))
    (hRm : mt_R X = mm_rm d mc ms) (hd1 : 1 ≤ d) (hrest : (st.map fun v => v.category).sum ≤ 8) (kk : mG Z M X k w mc ms Q (npc, lv, st, mm_up h o1 (.inl (.int, la l0)))) : mG Z M X k w mc ms Q (pc, lv, .int n :: .int 0 :: .ref o1 :: .int 0 :: .ref o0 :: st, h) := by
  have z0 : (0 : Int32).toNatClampNeg = 0 := by decide
  have zn : n.toNatClampNeg = m := by rw [hn, nI_clamp hm]
  refine mg_copy C hc hw wo_cpn wo_cps wo_sys (ti := 0) rfl rfl ho0 ho1 (by decide) (by decide) (by rw [hn]; exact nI_pos hm) (by rw [z0, zn]; omega) (by rw [z0, zn]; omega) (fun i _ => rfl) hRm hd1 hrest ?_
  rw [z0, zn, gl_cpy h0 h1, show l1.length = l0.length by omega]
  exact kk
theorem mg_areturn {o : Nat} {cn : String} (C : mm_Ok Z M X) (hc : mm_cd M pc = some (.areturn, npc, a, b, wd)) (hk : k ≤ mc) (hw : w ≤ ms) (hty : M.2.2.2.1 = some (.object cn)) (hq : Q (.inl (some (.ref o))) h) : mG Z M X k w mc ms Q (pc, lv, [.ref o], h) := by
  intro H locs ls hR hS hl
  obtain ⟨hx, hb, hml, hr, hhs, hown, hnm, hlk, hts, hK, hB1, hB2, hg⟩ := C
  obtain ⟨hd, hp, hbr, hwd⟩ := hg _ _ _ _ _ _ hc
  simp only [mm_len] at hp hd
  subst hp
  refine W.widen hk hw (vx_ret ?_)
  exact W.aret (v := .ref (mm_ad Z o)) hx hb (hr.trans hty) (Or.inl ⟨cn, rfl⟩) (Or.inr ⟨_, rfl⟩) (mg_ret_q (v := some (.ref o)) hR hq) hS.2.2 hd hlk
end ML
