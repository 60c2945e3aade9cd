/- needs: 15.acall 15.fun 15.gcatch 18.acode 16.n 16.m2 17.c4 17.c5 -/
/-! THE LAW: the script is the cell 4000000 -/
def sc (xs : Nat → Int32) (L : Nat) (i : Int32) : Option Int32 := if inA i L then some (xs i.toNatClampNeg) else none
section LW
variable {Z : mm_Z} {M M' : mm_M} {X : mm_T} {k w mc ms d n t tn kc : Nat} {Q : mm_O → mm_H → Prop} {pc npc a b : Nat} {wd : Cond} {lv : mm_V} {st rest as : List Value} {c : mm_C} {α β : Type} {ov : β → Option Value} {xs : Nat → Int32} {L : Nat}
def scX (Z : mm_Z) (X : mm_T) (xs : Nat → Int32) (L : Nat) : Prop := va_X (Z.2.2.2.1 3000000) L xs (mt_s X) (mt_s X).heap ∧ Z.2.2.2.1 3000000 < mm_B Z ∧ mm_B Z ≤ (mt_s X).heap.size
theorem sc_ad (Z : mm_Z) : mm_ad Z 4000000 = Z.2.2.2.1 3000000 := by
  unfold mm_ad
  rw [if_neg (by omega)]
theorem mh_sc {i : Int32} {f : Int32 → mR β} (hX : scX Z X xs L) (C : mm_Ok Z M X) (hc : mm_cd M pc = some (.iaload, npc, a, b, wd)) (hf : hO t ov n (Option.bind (sc xs L i) f) Q)
    (kk : ∀ x, hO t ov n (f x) Q → mG Z M X k w mc ms Q (npc, lv, .int x :: st, (n, c))) : mG Z M X k w mc ms Q (pc, lv, .int i :: .ref 4000000 :: st, (n, c)) := by
  obtain ⟨x, e, hg⟩ := hO_bind hf
  unfold sc at e
  split at e
  case isFalse => cases e
  rename_i hi
  cases e
  have hkk := kk _ hg
  intro H locs ls hR hS hl
  obtain ⟨hx, hb, hml, hr, hhs, hown, hnm, hlk, hts, hK, hB1, hB2, hgd⟩ := C
  obtain ⟨hd, hp, hbr, hwd⟩ := hgd _ _ _ _ _ _ hc
  simp only [mm_len] at hp hd
  subst hp
  show W _ _ _ _ _ _ _ _ _ _ _ _ _ _ _ (F0 _ pc ls (.int i :: .ref (mm_ad Z 4000000) :: st.map (mm_tr Z)))
  rw [sc_ad]
  exact va_sld hx hb hX.1 (Nat.lt_of_lt_of_le hX.2.1 hX.2.2) (fun q => Nat.not_le.mpr hX.2.1 q) hS hi hd (hkk H locs ls hR hS hl)
theorem mh_scn {f : Int32 → mR β} (hX : scX Z X xs L) (C : mm_Ok Z M X) (hc : mm_cd M pc = some (.arraylength, npc, a, b, wd)) (hf : hO t ov n (Option.bind (some (Int32.ofNat L)) f) Q)
    (kk : ∀ x, hO t ov n (f x) Q → mG Z M X k w mc ms Q (npc, lv, .int x :: st, (n, c))) : mG Z M X k w mc ms Q (pc, lv, .ref 4000000 :: st, (n, c)) := by
  have hkk := kk _ hf
  intro H locs ls hR hS hl
  obtain ⟨hx, hb, hml, hr, hhs, hown, hnm, hlk, hts, hK, hB1, hB2, hgd⟩ := C
  obtain ⟨hd, hp, hbr, hwd⟩ := hgd _ _ _ _ _ _ hc
  simp only [mm_len] at hp hd
  subst hp
  show W _ _ _ _ _ _ _ _ _ _ _ _ _ _ _ (F0 _ pc ls (.ref (mm_ad Z 4000000) :: st.map (mm_tr Z)))
  rw [sc_ad]
  exact va_slen hx hb hX.1 (Nat.lt_of_lt_of_le hX.2.1 hX.2.2) (fun q => Nat.not_le.mpr hX.2.1 q) hS hd (hkk H locs ls hR hS hl)
theorem hO_any {n' : Nat} {r : mR β} (hQ : ∀ o a b c, Q o (a, c) → Q o (b, c)) (h : hO t ov n r Q) : hO t ov n' r Q := by
  obtain ⟨a, c', e, h3⟩ := h
  refine ⟨a, c', e, ?_⟩
  cases a with
  | inl v => exact fun m q1 q2 => hQ _ _ _ _ (h3 n (Nat.le_refl _) (Nat.le_add_right _ _))
  | inr v => exact fun m q1 q2 => hQ _ _ _ _ (h3 n (Nat.le_refl _) (by omega))
/-- a helper of the law is called -/
theorem mu_cS {idx m : Nat} {x : mR Int32} {f : Int32 → mm_C → mR β} (C : mm_Ok Z M X) (hc : mm_cd M pc = some (.invokestatic idx, npc, a, b, wd)) (hw : wd = .methodLink M.1.cls idx M'.1) (hcal : mm_calW M' m) (hsta : Cond.static M'.1 ∈ mm_tbl)
    (hRm : mt_R X = mm_rm d mc ms) (hdd : 1 ≤ d) (hL : M'.2.2.1 ≤ 21) (hk : k + kc ≤ mc) (hw' : w + 6 * kc ≤ ms) (hn : as.length = m) (hst : st = as.reverse ++ rest) (hrest : (rest.map fun v => v.category).sum ≤ 8) (hout : M.2.2.2.2.1.all (fun r => !(decide (r.1 ≤ pc) && decide (pc < r.2.1))) = true) (hQ : ∀ o a b c, Q o (a, c) → Q o (b, c))
    (hf : hO t ov n (cS x f) Q) (call : x.isSome = true → mC Z M' (d - 1) kc (6 * kc) as (n, c) (mP tn ovI n x))
    (kk : ∀ (v : Int32) (c' : mm_C) (n' : Nat), n ≤ n' → n' ≤ n + tn → hO t ov n' (f v c') Q → mG Z M X (k + kc) (w + 6 * kc) mc ms Q (npc, lv, .int v :: rest, (n', c'))) : mG Z M X k w mc ms Q (pc, lv, st, (n, c)) := by
  obtain ⟨hs, h1, h2⟩ := cS_hO hf
  refine mg_staticW C hc hw hcal hsta hRm (by omega) hL hk hw' (call hs) hn hst hrest ?_ ?_
  · rintro e h' ⟨y, c', q1, q2, q3, q4⟩
    cases y with
    | inl v => cases q4.1
    | inr e' =>
      cases q4.1
      refine mx_out C hout hk hw' ?_
      have := hQ _ _ h'.1 _ (h2 _ _ q1 n (Nat.le_refl _) (by omega))
      rw [← q2] at this
      exact this
  · rintro v h' ⟨y, c', q1, q2, q3, q4⟩
    cases y with
    | inl v' =>
      cases q4.1
      have := kk _ c' h'.1 q3 q4.2 (hO_any hQ (h1 _ _ q1))
      rw [← q2] at this
      exact this
    | inr e' => cases q4.1
end LW
