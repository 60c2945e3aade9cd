/-! STRING CONSTANTS, over the small machine: the String is 1000000 + i, its bytes are 2000000 + i -/
section MS
variable {Z : mm_Z} {M M' : mm_M} {X : mm_T} {k w mc ms d d' mc' ms' : Nat} {Q Q' : mm_O → mm_H → Prop} {pc npc a b : Nat} {wd : Cond} {lv : mm_V} {st rest as : List Value} {h : mm_H} {n : Nat}
theorem mm_adS (Z : mm_Z) (i : Nat) : mm_ad Z (1000000 + i) = Z.2.2.2.1 i := by
  unfold mm_ad
  rw [if_neg (by omega), Nat.add_sub_cancel_left]
theorem mm_adB (Z : mm_Z) (i : Nat) : mm_ad Z (2000000 + i) = Z.2.2.2.1 (1000000 + i) := by
  unfold mm_ad
  rw [if_neg (by omega), show 2000000 + i - 1000000 = 1000000 + i by omega]
theorem mm_Sat {s : State} (hK : mm_K Z s) (hB1 : ∀ q : Nat, q < mm_B Z → s.heap[q]? = Z.2.2.1[q]?) : vk_S 37 mm_sl mm_sb Z.2.2.2.1 (fun i => Z.2.2.2.1 (1000000 + i)) (fun q => mm_B Z ≤ q) s s.heap :=
  hK.2.2.1.kept fun a h1 _ => hB1 a h1
theorem mg_svalue {idx i : Nat} (C : mm_Ok Z M X) (hc : mm_cd M pc = some (.getfield idx, npc, a, b, wd)) (hw : wd = .fieldLink M.1.cls idx "java/lang/String" "value" "[B") (hi : i < 37) (kk : mG Z M X k w mc ms Q (npc, lv, .ref (2000000 + i) :: st, h)) : mG Z M X k w mc ms Q (pc, lv, .ref (1000000 + i) :: st, h) := by
  intro H locs ls hR hS hl
  obtain ⟨hx, hb, hml, hr, hhs, hown, hnm, hlk, hts, hK, hB1, hB2, hg⟩ := C
  obtain ⟨hd, hp, hbr, hwd⟩ := hg _ _ _ _ _ _ hc
  simp only [mm_len] at hp hd
  subst hp hw
  have h9 := kk H locs ls hR hS hl
  simp only [List.map_cons, mm_tr_ref, mm_adB] at h9
  simp only [List.map_cons, mm_tr_ref, mm_adS]
  exact vk_getf hx hb ((mm_Sat hK hB1).1 i hi).2.2.1 hS hown (mm_wd hts hwd (by simp)) (fun _ h => h) hd h9
theorem mg_scoder {idx i : Nat} (C : mm_Ok Z M X) (hc : mm_cd M pc = some (.getfield idx, npc, a, b, wd)) (hw : wd = .fieldLink M.1.cls idx "java/lang/String" "coder" "B") (hi : i < 37) (kk : mG Z M X k w mc ms Q (npc, lv, .int 0 :: st, h)) : mG Z M X k w mc ms Q (pc, lv, .ref (1000000 + i) :: st, h) := by
  intro H locs ls hR hS hl
  obtain ⟨hx, hb, hml, hr, hhs, hown, hnm, hlk, hts, hK, hB1, hB2, hg⟩ := C
  obtain ⟨hd, hp, hbr, hwd⟩ := hg _ _ _ _ _ _ hc
  simp only [mm_len] at hp hd
  subst hp hw
  have h9 := kk H locs ls hR hS hl
  simp only [List.map_cons, mm_tr_int] at h9
  simp only [List.map_cons, mm_tr_ref, mm_adS]
  exact vk_getf hx hb ((mm_Sat hK hB1).1 i hi).2.1 hS hown (mm_wd hts hwd (by simp)) (fun _ h => h) hd h9
theorem mg_compact {idx : Nat} (C : mm_Ok Z M X) (hc : mm_cd M pc = some (.getstatic idx, npc, a, b, wd)) (hw : wd = .fieldLink M.1.cls idx "java/lang/String" "COMPACT_STRINGS" "Z") (kk : mG Z M X k w mc ms Q (npc, lv, .int 1 :: st, h)) : mG Z M X k w mc ms Q (pc, lv, st, h) := by
  intro H locs ls hR hS hl
  obtain ⟨hx, hb, hml, hr, hhs, hown, hnm, hlk, hts, hK, hB1, hB2, hg⟩ := C
  obtain ⟨hd, hp, hbr, hwd⟩ := hg _ _ _ _ _ _ hc
  simp only [mm_len] at hp hd
  subst hp hw
  exact va_gets hx hb (hK.2.2.2.2.2.2.1.kept fun a h1 _ => hB1 a h1) hS hown (mm_wd hts hwd (by simp)) (fun _ h => h) hd (kk H locs ls hR hS hl)
theorem mg_format {idx : Nat} (C : mm_Ok Z M X) (hc : mm_cd M pc = some (.getstatic idx, npc, a, b, wd)) (hw : wd = .fieldLink M.1.cls idx "jdk/internal/util/Preconditions" "SIOOBE_FORMATTER" "Ljava/util/function/BiFunction;") (kk : mG Z M X k w mc ms Q (npc, lv, mm_fmt Z :: st, h)) : mG Z M X k w mc ms Q (pc, lv, st, h) := by
  intro H locs ls hR hS hl
  obtain ⟨hx, hb, hml, hr, hhs, hown, hnm, hlk, hts, hK, hB1, hB2, hg⟩ := C
  obtain ⟨hd, hp, hbr, hwd⟩ := hg _ _ _ _ _ _ hc
  simp only [mm_len] at hp hd
  subst hp hw
  exact va_gets hx hb (hK.2.2.2.2.2.2.2.1.kept fun a h1 _ => hB1 a h1) hS hown (mm_wd hts hwd (by simp)) (fun _ h => h) hd (kk H locs ls hR hS hl)
theorem mg_sbyte {i j : Nat} (C : mm_Ok Z M X) (hc : mm_cd M pc = some (.baload, npc, a, b, wd)) (hi : i < 37) (hj : j < mm_sl.getD i 0) (hj2 : j < 2 ^ 31) (kk : mG Z M X k w mc ms Q (npc, lv, .int ((mm_sb.getD i []).getD j 0) :: st, h)) : mG Z M X k w mc ms Q (pc, lv, .int (nI j) :: .ref (2000000 + i) :: st, h) := by
  intro H locs ls hR hS hl
  obtain ⟨hx, hb, hml, hr, hhs, hown, hnm, hlk, hts, hK, hB1, hB2, hg⟩ := C
  obtain ⟨hd, hp, hbr, hwd⟩ := hg _ _ _ _ _ _ hc
  simp only [mm_len] at hp hd
  subst hp
  have h9 := kk H locs ls hR hS hl
  simp only [List.map_cons, mm_tr_ref, mm_tr_int, mm_adB]
  refine va_tb hx hb ((mm_Sat hK hB1).1 i hi).2.2.2 hS (i := nI j) (fun q => ?_) rfl hd ?_
  · rcases q with q | q
    · exact nI_pos hj2 q
    · rw [nI_clamp hj2] at q; omega
  · rw [nI_clamp hj2]; exact h9
theorem mg_sblen {i : Nat} {v : Int32} (C : mm_Ok Z M X) (hc : mm_cd M pc = some (.arraylength, npc, a, b, wd)) (hi : i < 37) (hv : Int32.ofNat (mm_sl.getD i 0) = v) (kk : mG Z M X k w mc ms Q (npc, lv, .int v :: st, h)) : mG Z M X k w mc ms Q (pc, lv, .ref (2000000 + i) :: st, h) := by
  intro H locs ls hR hS hl
  obtain ⟨hx, hb, hml, hr, hhs, hown, hnm, hlk, hts, hK, hB1, hB2, hg⟩ := C
  obtain ⟨hd, hp, hbr, hwd⟩ := hg _ _ _ _ _ _ hc
  simp only [mm_len] at hp hd
  subst hp
  have h9 := kk H locs ls hR hS hl
  simp only [List.map_cons, mm_tr_ref, mm_adB]
  exact va_tlen hx hb ((mm_Sat hK hB1).1 i hi).2.2.2 hS hv hd h9
/-- a call on a String constant -/
theorem mg_onString {idx i : Nat} (C : mm_Ok Z M X) (hc : mm_cd M pc = some (.invokevirtual idx, npc, a, b, wd)) (hw : wd = .methodLink M.1.cls idx M'.1) (hcs : M'.1.cls = "java/lang/String") (hcal : mm_cal M' n) (hin : Cond.instanceMethod M'.1 ∈ mm_tbl) (hse : Cond.selects M'.1.cls M'.1 M'.1 ∈ mm_tbl)
    (hRm : mt_R X = mm_rm d mc ms) (hdd : d' + 1 ≤ d) (hL : M'.2.2.1 ≤ 21) (hk : k + mc' ≤ mc) (hw' : w + ms' ≤ ms) (call : mC Z M' d' mc' ms' (.ref (1000000 + i) :: as) h Q') (hn : as.length = n) (hst : st = as.reverse ++ .ref (1000000 + i) :: rest) (hrest : (rest.map fun v => v.category).sum ≤ 8)
    (hi : i < 37)
    (kx : ∀ ci h', Q' (.inr ci) h' → mX Z M X (k + mc') (w + ms') mc ms Q pc lv h' ci)
    (kk : ∀ v h', Q' (.inl v) h' → mG Z M X (k + mc') (w + ms') mc ms Q (npc, lv, v.toList ++ rest, h')) : mG Z M X k w mc ms Q (pc, lv, st, h) := by
  intro H locs ls hR hS hl
  obtain ⟨hx, hb, hml, hr, hhs, hown, hnm, hlk, hts, hK, hB1, hB2, hg⟩ := C
  obtain ⟨hd, hp, hbr, hwd⟩ := hg _ _ _ _ _ _ hc
  simp only [mm_len] at hp hd
  subst hp hw hst
  have hlink := mm_wd hts hwd (by simp)
  refine mm_after hR hS hl (vx_runV (Ts := mm_tbl) (nL := M.2.2.1) (C := M'.1.cls) (As := as.map (mm_tr Z)) (b := mm_ad Z (1000000 + i)) (n := n) ⟨hx, hb, hml, hown, hts⟩ call ⟨mm_cb (M := M) (d := d) (d' := d') hts hcal hlink hRm hdd hL, hts _ hin, hts _ hse⟩ ⟨mm_blind Z _ h, ?_, fun U hU hW => ⟨rfl, by rw [hU]; exact hR, hK.warm hW⟩⟩ rfl (by rw [List.length_map]; exact hn) hl.1 ?_ (lv_room (by rw [mm_cats]; exact hrest)) hd ?_) kx kk
  · rw [mm_adS, hcs]
    exact vk_recv (mm_Sat hK hB1) hi hS
  · show (List.map (mm_tr Z) (as.reverse ++ .ref (1000000 + i) :: rest)) = _
    rw [List.map_append, List.map_reverse, List.map_cons, mm_tr_ref]
  · rw [hRm]; exact ⟨hk, hw'⟩
end MS
