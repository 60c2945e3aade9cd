/-! ONE RULE AN INSTRUCTION, over the small machine (written by wip/whole/gen_rules.py) -/
def mm_get (lv : mm_V) (i : Nat) : Option Value := (lv.find? fun q => q.1 == i).map (·.2)
theorem mm_get_has {Z : mm_Z} {lv : mm_V} {i n : Nat} {v : Value} {ls : Array Slot} (hl : lv_has ls n (lv.map fun q => (q.1, mm_tr Z q.2))) (hg : mm_get lv i = some v) : ls[i]? = some (.val (mm_tr Z v)) := by
  obtain ⟨q, hq, e⟩ := Option.map_eq_some_iff.mp hg
  have h1 : q.1 = i := by simpa using List.find?_some hq
  have hm : q ∈ lv := List.mem_of_find?_eq_some hq
  have := hl.2.2 (q.1, mm_tr Z q.2) (List.mem_map.mpr ⟨q, hm, rfl⟩)
  rw [h1, e] at this
  exact this
theorem mm_has_sub {ls : Array Slot} {n : Nat} {l l' : List (Nat × Value)} (h : lv_has ls n l) (hs : ∀ q ∈ l', q ∈ l) : lv_has ls n l' := ⟨h.1, h.2.1, fun q hq => h.2.2 q (hs q hq)⟩
/-- storing a value of one slot, of two -/
def mm_s1 (lv : mm_V) (i : Nat) (v : Value) : mm_V := lv.filter (fun q => decide (q.1 < i) && !(q.1 + 1 == i && q.2.category == 2)) ++ (i, v) :: lv.filter (fun q => decide (i < q.1))
def mm_s2 (lv : mm_V) (i : Nat) (v : Value) : mm_V := lv.filter (fun q => decide (q.1 < i) && !(q.1 + 1 == i && q.2.category == 2)) ++ (i, v) :: lv.filter (fun q => decide (i + 1 < q.1))
theorem mm_s1_sub (Z : mm_Z) (lv : mm_V) (i : Nat) (v : Value) : ∀ q ∈ (mm_s1 lv i v).map (fun q => (q.1, mm_tr Z q.2)), q ∈ (i, mm_tr Z v) :: (lv.map fun q => (q.1, mm_tr Z q.2)).filter (fun q => !(q.1 == i) && !(q.1 + 1 == i && q.2.category == 2)) := by
  intro q hq
  obtain ⟨r, hr, rfl⟩ := List.mem_map.mp hq
  rcases List.mem_append.mp hr with h | h
  · obtain ⟨h1, h2⟩ := List.mem_filter.mp h
    refine List.mem_cons_of_mem _ (List.mem_filter.mpr ⟨List.mem_map.mpr ⟨r, h1, rfl⟩, ?_⟩)
    simp only [Bool.and_eq_true, decide_eq_true_eq] at h2
    have hne : (r.1 == i) = false := by simp; omega
    show (!(r.1 == i) && !(r.1 + 1 == i && (mm_tr Z r.2).category == 2)) = true
    rw [mm_tr_cat, hne, h2.2]; rfl
  · rcases List.mem_cons.mp h with h | h
    · subst h; exact List.mem_cons_self
    · obtain ⟨h1, h2⟩ := List.mem_filter.mp h
      refine List.mem_cons_of_mem _ (List.mem_filter.mpr ⟨List.mem_map.mpr ⟨r, h1, rfl⟩, ?_⟩)
      simp only [decide_eq_true_eq] at h2
      have hne : (r.1 == i) = false := by simp; omega
      have hne2 : (r.1 + 1 == i) = false := by simp; omega
      show (!(r.1 == i) && !(r.1 + 1 == i && (mm_tr Z r.2).category == 2)) = true
      rw [hne, hne2]; rfl
theorem mm_s2_sub (Z : mm_Z) (lv : mm_V) (i : Nat) (v : Value) : ∀ q ∈ (mm_s2 lv i v).map (fun q => (q.1, mm_tr Z q.2)), q ∈ (i, mm_tr Z v) :: (lv.map fun q => (q.1, mm_tr Z q.2)).filter (fun q => !(q.1 == i) && (!(q.1 == i + 1) && !(q.1 + 1 == i && q.2.category == 2))) := by
  intro q hq
  obtain ⟨r, hr, rfl⟩ := List.mem_map.mp hq
  rcases List.mem_append.mp hr with h | h
  · obtain ⟨h1, h2⟩ := List.mem_filter.mp h
    refine List.mem_cons_of_mem _ (List.mem_filter.mpr ⟨List.mem_map.mpr ⟨r, h1, rfl⟩, ?_⟩)
    simp only [Bool.and_eq_true, decide_eq_true_eq] at h2
    have hne : (r.1 == i) = false := by simp; omega
    have hne3 : (r.1 == i + 1) = false := by simp; omega
    show (!(r.1 == i) && (!(r.1 == i + 1) && !(r.1 + 1 == i && (mm_tr Z r.2).category == 2))) = true
    rw [mm_tr_cat, hne, hne3, h2.2]; rfl
  · rcases List.mem_cons.mp h with h | h
    · subst h; exact List.mem_cons_self
    · obtain ⟨h1, h2⟩ := List.mem_filter.mp h
      refine List.mem_cons_of_mem _ (List.mem_filter.mpr ⟨List.mem_map.mpr ⟨r, h1, rfl⟩, ?_⟩)
      simp only [decide_eq_true_eq] at h2
      have hne : (r.1 == i) = false := by simp; omega
      have hne2 : (r.1 + 1 == i) = false := by simp; omega
      have hne3 : (r.1 == i + 1) = false := by simp; omega
      show (!(r.1 == i) && (!(r.1 == i + 1) && !(r.1 + 1 == i && (mm_tr Z r.2).category == 2))) = true
      rw [hne, hne2, hne3]; rfl
section MR
variable {Z : mm_Z} {M : mm_M} {X : mm_T} {k w mc ms : Nat} {Q : mm_O → mm_H → Prop} {pc npc a b : Nat} {wd : Cond} {lv : mm_V} {st : List Value} {h : mm_H}
/-- fewer cells are counted than may be -/
theorem mg_widen {k' w' : Nat} {f : mm_F} (h1 : k ≤ k') (h2 : w ≤ w') (kk : mG Z M X k' w' mc ms Q f) : mG Z M X k w mc ms Q f := fun H locs ls hR hS hl => W.widen h1 h2 (kk H locs ls hR hS hl)
/-- fewer locals are known, or in another order -/
theorem mg_sub {lv' : mm_V} (hs : ∀ q ∈ lv', q ∈ lv) (kk : mG Z M X k w mc ms Q (pc, lv', st, h)) : mG Z M X k w mc ms Q (pc, lv, st, h) := fun H locs ls hR hS hl => kk H locs ls hR hS (mm_has_sub hl fun q hq => by
  obtain ⟨r, hr, rfl⟩ := List.mem_map.mp hq
  exact List.mem_map.mpr ⟨r, hs r hr, rfl⟩)
theorem mg_iconst {n : Int} {v : Int32} (C : mm_Ok Z M X) (hc : mm_cd M pc = some (.iconst n, npc, a, b, wd)) (hv : Int32.ofInt n = v) (kk : mG Z M X k w mc ms Q (npc, lv, .int v :: st, h)) : mG Z M X k w mc ms Q (pc, lv, st, h) := by
  intro H locs ls hR hS hl
  obtain ⟨hx, hb, hml, hr, hhs, hown, hnm, hlk, hts, hK, hB1, hB2, hg⟩ := C
  obtain ⟨hd, hp, hbr, hwd⟩ := hg _ _ _ _ _ _ hc
  simp only [mm_len] at hp hd
  subst hp
  exact lv_iconst hx hb hd hv (kk H locs ls hR hS hl)
theorem mg_bipush {n : Int} {v : Int32} (C : mm_Ok Z M X) (hc : mm_cd M pc = some (.bipush n, npc, a, b, wd)) (hv : (Int8.ofInt n).toInt32 = v) (kk : mG Z M X k w mc ms Q (npc, lv, .int v :: st, h)) : mG Z M X k w mc ms Q (pc, lv, st, h) := by
  intro H locs ls hR hS hl
  obtain ⟨hx, hb, hml, hr, hhs, hown, hnm, hlk, hts, hK, hB1, hB2, hg⟩ := C
  obtain ⟨hd, hp, hbr, hwd⟩ := hg _ _ _ _ _ _ hc
  simp only [mm_len] at hp hd
  subst hp
  exact lv_bipush hx hb hd hv (kk H locs ls hR hS hl)
theorem mg_sipush {n : Int} {v : Int32} (C : mm_Ok Z M X) (hc : mm_cd M pc = some (.sipush n, npc, a, b, wd)) (hv : (Int16.ofInt n).toInt32 = v) (kk : mG Z M X k w mc ms Q (npc, lv, .int v :: st, h)) : mG Z M X k w mc ms Q (pc, lv, st, h) := by
  intro H locs ls hR hS hl
  obtain ⟨hx, hb, hml, hr, hhs, hown, hnm, hlk, hts, hK, hB1, hB2, hg⟩ := C
  obtain ⟨hd, hp, hbr, hwd⟩ := hg _ _ _ _ _ _ hc
  simp only [mm_len] at hp hd
  subst hp
  exact lv_sipush hx hb hd hv (kk H locs ls hR hS hl)
theorem mg_lconst {n : Fin 2} {v : Int64} (C : mm_Ok Z M X) (hc : mm_cd M pc = some (.lconst n, npc, a, b, wd)) (hv : Int64.ofNat (n : Nat) = v) (kk : mG Z M X k w mc ms Q (npc, lv, .long v :: st, h)) : mG Z M X k w mc ms Q (pc, lv, st, h) := by
  intro H locs ls hR hS hl
  obtain ⟨hx, hb, hml, hr, hhs, hown, hnm, hlk, hts, hK, hB1, hB2, hg⟩ := C
  obtain ⟨hd, hp, hbr, hwd⟩ := hg _ _ _ _ _ _ hc
  simp only [mm_len] at hp hd
  subst hp
  exact lv_lconst hx hb hd hv (kk H locs ls hR hS hl)
theorem mg_iadd {x y : Int32} (C : mm_Ok Z M X) (hc : mm_cd M pc = some (.iadd, npc, a, b, wd))  (kk : mG Z M X k w mc ms Q (npc, lv, .int (x + y) :: st, h)) : mG Z M X k w mc ms Q (pc, lv, .int y :: .int x :: st, h) := by
  intro H locs ls hR hS hl
  obtain ⟨hx, hb, hml, hr, hhs, hown, hnm, hlk, hts, hK, hB1, hB2, hg⟩ := C
  obtain ⟨hd, hp, hbr, hwd⟩ := hg _ _ _ _ _ _ hc
  simp only [mm_len] at hp hd
  subst hp
  exact lv_iadd hx hb hd  (kk H locs ls hR hS hl)
theorem mg_isub {x y : Int32} (C : mm_Ok Z M X) (hc : mm_cd M pc = some (.isub, npc, a, b, wd))  (kk : mG Z M X k w mc ms Q (npc, lv, .int (x - y) :: st, h)) : mG Z M X k w mc ms Q (pc, lv, .int y :: .int x :: st, h) := by
  intro H locs ls hR hS hl
  obtain ⟨hx, hb, hml, hr, hhs, hown, hnm, hlk, hts, hK, hB1, hB2, hg⟩ := C
  obtain ⟨hd, hp, hbr, hwd⟩ := hg _ _ _ _ _ _ hc
  simp only [mm_len] at hp hd
  subst hp
  exact lv_isub hx hb hd  (kk H locs ls hR hS hl)
theorem mg_imul {x y : Int32} (C : mm_Ok Z M X) (hc : mm_cd M pc = some (.imul, npc, a, b, wd))  (kk : mG Z M X k w mc ms Q (npc, lv, .int (x * y) :: st, h)) : mG Z M X k w mc ms Q (pc, lv, .int y :: .int x :: st, h) := by
  intro H locs ls hR hS hl
  obtain ⟨hx, hb, hml, hr, hhs, hown, hnm, hlk, hts, hK, hB1, hB2, hg⟩ := C
  obtain ⟨hd, hp, hbr, hwd⟩ := hg _ _ _ _ _ _ hc
  simp only [mm_len] at hp hd
  subst hp
  exact lv_imul hx hb hd  (kk H locs ls hR hS hl)
theorem mg_iand {x y : Int32} (C : mm_Ok Z M X) (hc : mm_cd M pc = some (.iand, npc, a, b, wd))  (kk : mG Z M X k w mc ms Q (npc, lv, .int (x &&& y) :: st, h)) : mG Z M X k w mc ms Q (pc, lv, .int y :: .int x :: st, h) := by
  intro H locs ls hR hS hl
  obtain ⟨hx, hb, hml, hr, hhs, hown, hnm, hlk, hts, hK, hB1, hB2, hg⟩ := C
  obtain ⟨hd, hp, hbr, hwd⟩ := hg _ _ _ _ _ _ hc
  simp only [mm_len] at hp hd
  subst hp
  exact lv_iand hx hb hd  (kk H locs ls hR hS hl)
theorem mg_ior {x y : Int32} (C : mm_Ok Z M X) (hc : mm_cd M pc = some (.ior, npc, a, b, wd))  (kk : mG Z M X k w mc ms Q (npc, lv, .int (x ||| y) :: st, h)) : mG Z M X k w mc ms Q (pc, lv, .int y :: .int x :: st, h) := by
  intro H locs ls hR hS hl
  obtain ⟨hx, hb, hml, hr, hhs, hown, hnm, hlk, hts, hK, hB1, hB2, hg⟩ := C
  obtain ⟨hd, hp, hbr, hwd⟩ := hg _ _ _ _ _ _ hc
  simp only [mm_len] at hp hd
  subst hp
  exact lv_ior hx hb hd  (kk H locs ls hR hS hl)
theorem mg_ixor {x y : Int32} (C : mm_Ok Z M X) (hc : mm_cd M pc = some (.ixor, npc, a, b, wd))  (kk : mG Z M X k w mc ms Q (npc, lv, .int (x ^^^ y) :: st, h)) : mG Z M X k w mc ms Q (pc, lv, .int y :: .int x :: st, h) := by
  intro H locs ls hR hS hl
  obtain ⟨hx, hb, hml, hr, hhs, hown, hnm, hlk, hts, hK, hB1, hB2, hg⟩ := C
  obtain ⟨hd, hp, hbr, hwd⟩ := hg _ _ _ _ _ _ hc
  simp only [mm_len] at hp hd
  subst hp
  exact lv_ixor hx hb hd  (kk H locs ls hR hS hl)
theorem mg_ishl {x y : Int32} (C : mm_Ok Z M X) (hc : mm_cd M pc = some (.ishl, npc, a, b, wd))  (kk : mG Z M X k w mc ms Q (npc, lv, .int (x <<< (y &&& 31)) :: st, h)) : mG Z M X k w mc ms Q (pc, lv, .int y :: .int x :: st, h) := by
  intro H locs ls hR hS hl
  obtain ⟨hx, hb, hml, hr, hhs, hown, hnm, hlk, hts, hK, hB1, hB2, hg⟩ := C
  obtain ⟨hd, hp, hbr, hwd⟩ := hg _ _ _ _ _ _ hc
  simp only [mm_len] at hp hd
  subst hp
  exact lv_ishl hx hb hd  (kk H locs ls hR hS hl)
theorem mg_ishr {x y : Int32} (C : mm_Ok Z M X) (hc : mm_cd M pc = some (.ishr, npc, a, b, wd))  (kk : mG Z M X k w mc ms Q (npc, lv, .int (x >>> (y &&& 31)) :: st, h)) : mG Z M X k w mc ms Q (pc, lv, .int y :: .int x :: st, h) := by
  intro H locs ls hR hS hl
  obtain ⟨hx, hb, hml, hr, hhs, hown, hnm, hlk, hts, hK, hB1, hB2, hg⟩ := C
  obtain ⟨hd, hp, hbr, hwd⟩ := hg _ _ _ _ _ _ hc
  simp only [mm_len] at hp hd
  subst hp
  exact lv_ishr hx hb hd  (kk H locs ls hR hS hl)
theorem mg_idiv {x y : Int32} (C : mm_Ok Z M X) (hc : mm_cd M pc = some (.idiv, npc, a, b, wd)) (hne : ¬ y = 0) (kk : mG Z M X k w mc ms Q (npc, lv, .int (x / y) :: st, h)) : mG Z M X k w mc ms Q (pc, lv, .int y :: .int x :: st, h) := by
  intro H locs ls hR hS hl
  obtain ⟨hx, hb, hml, hr, hhs, hown, hnm, hlk, hts, hK, hB1, hB2, hg⟩ := C
  obtain ⟨hd, hp, hbr, hwd⟩ := hg _ _ _ _ _ _ hc
  simp only [mm_len] at hp hd
  subst hp
  exact lv_idiv hx hb hd hne (kk H locs ls hR hS hl)
theorem mg_irem {x y : Int32} (C : mm_Ok Z M X) (hc : mm_cd M pc = some (.irem, npc, a, b, wd)) (hne : ¬ y = 0) (kk : mG Z M X k w mc ms Q (npc, lv, .int (x - x / y * y) :: st, h)) : mG Z M X k w mc ms Q (pc, lv, .int y :: .int x :: st, h) := by
  intro H locs ls hR hS hl
  obtain ⟨hx, hb, hml, hr, hhs, hown, hnm, hlk, hts, hK, hB1, hB2, hg⟩ := C
  obtain ⟨hd, hp, hbr, hwd⟩ := hg _ _ _ _ _ _ hc
  simp only [mm_len] at hp hd
  subst hp
  exact lv_irem hx hb hd hne (kk H locs ls hR hS hl)
theorem mg_ineg {x : Int32} (C : mm_Ok Z M X) (hc : mm_cd M pc = some (.ineg, npc, a, b, wd))  (kk : mG Z M X k w mc ms Q (npc, lv, .int (-x) :: st, h)) : mG Z M X k w mc ms Q (pc, lv, .int x :: st, h) := by
  intro H locs ls hR hS hl
  obtain ⟨hx, hb, hml, hr, hhs, hown, hnm, hlk, hts, hK, hB1, hB2, hg⟩ := C
  obtain ⟨hd, hp, hbr, hwd⟩ := hg _ _ _ _ _ _ hc
  simp only [mm_len] at hp hd
  subst hp
  exact lv_ineg hx hb hd  (kk H locs ls hR hS hl)
theorem mg_iushr {x y : Int32} (C : mm_Ok Z M X) (hc : mm_cd M pc = some (.iushr, npc, a, b, wd))  (kk : mG Z M X k w mc ms Q (npc, lv, .int ((x.toUInt32 >>> (y.toUInt32 &&& Int32.toUInt32 31)).toInt32) :: st, h)) : mG Z M X k w mc ms Q (pc, lv, .int y :: .int x :: st, h) := by
  intro H locs ls hR hS hl
  obtain ⟨hx, hb, hml, hr, hhs, hown, hnm, hlk, hts, hK, hB1, hB2, hg⟩ := C
  obtain ⟨hd, hp, hbr, hwd⟩ := hg _ _ _ _ _ _ hc
  simp only [mm_len] at hp hd
  subst hp
  exact lv_iushr hx hb hd rfl (kk H locs ls hR hS hl)
theorem mg_ladd {x y : Int64} (C : mm_Ok Z M X) (hc : mm_cd M pc = some (.ladd, npc, a, b, wd))  (kk : mG Z M X k w mc ms Q (npc, lv, .long (x + y) :: st, h)) : mG Z M X k w mc ms Q (pc, lv, .long y :: .long x :: st, h) := by
  intro H locs ls hR hS hl
  obtain ⟨hx, hb, hml, hr, hhs, hown, hnm, hlk, hts, hK, hB1, hB2, hg⟩ := C
  obtain ⟨hd, hp, hbr, hwd⟩ := hg _ _ _ _ _ _ hc
  simp only [mm_len] at hp hd
  subst hp
  exact lv_ladd hx hb hd  (kk H locs ls hR hS hl)
theorem mg_lsub {x y : Int64} (C : mm_Ok Z M X) (hc : mm_cd M pc = some (.lsub, npc, a, b, wd))  (kk : mG Z M X k w mc ms Q (npc, lv, .long (x - y) :: st, h)) : mG Z M X k w mc ms Q (pc, lv, .long y :: .long x :: st, h) := by
  intro H locs ls hR hS hl
  obtain ⟨hx, hb, hml, hr, hhs, hown, hnm, hlk, hts, hK, hB1, hB2, hg⟩ := C
  obtain ⟨hd, hp, hbr, hwd⟩ := hg _ _ _ _ _ _ hc
  simp only [mm_len] at hp hd
  subst hp
  exact lv_lsub hx hb hd  (kk H locs ls hR hS hl)
theorem mg_lmul {x y : Int64} (C : mm_Ok Z M X) (hc : mm_cd M pc = some (.lmul, npc, a, b, wd))  (kk : mG Z M X k w mc ms Q (npc, lv, .long (x * y) :: st, h)) : mG Z M X k w mc ms Q (pc, lv, .long y :: .long x :: st, h) := by
  intro H locs ls hR hS hl
  obtain ⟨hx, hb, hml, hr, hhs, hown, hnm, hlk, hts, hK, hB1, hB2, hg⟩ := C
  obtain ⟨hd, hp, hbr, hwd⟩ := hg _ _ _ _ _ _ hc
  simp only [mm_len] at hp hd
  subst hp
  exact lv_lmul hx hb hd  (kk H locs ls hR hS hl)
theorem mg_ldiv {x y : Int64} (C : mm_Ok Z M X) (hc : mm_cd M pc = some (.ldiv, npc, a, b, wd)) (hne : ¬ y = 0) (kk : mG Z M X k w mc ms Q (npc, lv, .long (x / y) :: st, h)) : mG Z M X k w mc ms Q (pc, lv, .long y :: .long x :: st, h) := by
  intro H locs ls hR hS hl
  obtain ⟨hx, hb, hml, hr, hhs, hown, hnm, hlk, hts, hK, hB1, hB2, hg⟩ := C
  obtain ⟨hd, hp, hbr, hwd⟩ := hg _ _ _ _ _ _ hc
  simp only [mm_len] at hp hd
  subst hp
  exact lv_ldiv hx hb hd hne (kk H locs ls hR hS hl)
theorem mg_lrem {x y : Int64} (C : mm_Ok Z M X) (hc : mm_cd M pc = some (.lrem, npc, a, b, wd)) (hne : ¬ y = 0) (kk : mG Z M X k w mc ms Q (npc, lv, .long (x - x / y * y) :: st, h)) : mG Z M X k w mc ms Q (pc, lv, .long y :: .long x :: st, h) := by
  intro H locs ls hR hS hl
  obtain ⟨hx, hb, hml, hr, hhs, hown, hnm, hlk, hts, hK, hB1, hB2, hg⟩ := C
  obtain ⟨hd, hp, hbr, hwd⟩ := hg _ _ _ _ _ _ hc
  simp only [mm_len] at hp hd
  subst hp
  exact lv_lrem hx hb hd hne (kk H locs ls hR hS hl)
theorem mg_i2l {x : Int32} (C : mm_Ok Z M X) (hc : mm_cd M pc = some (.i2l, npc, a, b, wd))  (kk : mG Z M X k w mc ms Q (npc, lv, .long x.toInt64 :: st, h)) : mG Z M X k w mc ms Q (pc, lv, .int x :: st, h) := by
  intro H locs ls hR hS hl
  obtain ⟨hx, hb, hml, hr, hhs, hown, hnm, hlk, hts, hK, hB1, hB2, hg⟩ := C
  obtain ⟨hd, hp, hbr, hwd⟩ := hg _ _ _ _ _ _ hc
  simp only [mm_len] at hp hd
  subst hp
  exact lv_i2l hx hb hd rfl (kk H locs ls hR hS hl)
theorem mg_l2i {x : Int64} (C : mm_Ok Z M X) (hc : mm_cd M pc = some (.l2i, npc, a, b, wd))  (kk : mG Z M X k w mc ms Q (npc, lv, .int x.toInt32 :: st, h)) : mG Z M X k w mc ms Q (pc, lv, .long x :: st, h) := by
  intro H locs ls hR hS hl
  obtain ⟨hx, hb, hml, hr, hhs, hown, hnm, hlk, hts, hK, hB1, hB2, hg⟩ := C
  obtain ⟨hd, hp, hbr, hwd⟩ := hg _ _ _ _ _ _ hc
  simp only [mm_len] at hp hd
  subst hp
  exact lv_l2i hx hb hd rfl (kk H locs ls hR hS hl)
theorem mg_i2b {x : Int32} (C : mm_Ok Z M X) (hc : mm_cd M pc = some (.i2b, npc, a, b, wd))  (kk : mG Z M X k w mc ms Q (npc, lv, .int x.toInt8.toInt32 :: st, h)) : mG Z M X k w mc ms Q (pc, lv, .int x :: st, h) := by
  intro H locs ls hR hS hl
  obtain ⟨hx, hb, hml, hr, hhs, hown, hnm, hlk, hts, hK, hB1, hB2, hg⟩ := C
  obtain ⟨hd, hp, hbr, hwd⟩ := hg _ _ _ _ _ _ hc
  simp only [mm_len] at hp hd
  subst hp
  exact lv_i2b hx hb hd rfl (kk H locs ls hR hS hl)
theorem mg_i2c {x : Int32} (C : mm_Ok Z M X) (hc : mm_cd M pc = some (.i2c, npc, a, b, wd))  (kk : mG Z M X k w mc ms Q (npc, lv, .int ((x.toUInt32 % 65536).toInt32) :: st, h)) : mG Z M X k w mc ms Q (pc, lv, .int x :: st, h) := by
  intro H locs ls hR hS hl
  obtain ⟨hx, hb, hml, hr, hhs, hown, hnm, hlk, hts, hK, hB1, hB2, hg⟩ := C
  obtain ⟨hd, hp, hbr, hwd⟩ := hg _ _ _ _ _ _ hc
  simp only [mm_len] at hp hd
  subst hp
  exact lv_i2c hx hb hd rfl (kk H locs ls hR hS hl)
theorem mg_dup {u : Value} (C : mm_Ok Z M X) (hc : mm_cd M pc = some (.dup, npc, a, b, wd)) (hu : u.category = 1) (kk : mG Z M X k w mc ms Q (npc, lv, u :: u :: st, h)) : mG Z M X k w mc ms Q (pc, lv, u :: st, h) := by
  intro H locs ls hR hS hl
  obtain ⟨hx, hb, hml, hr, hhs, hown, hnm, hlk, hts, hK, hB1, hB2, hg⟩ := C
  obtain ⟨hd, hp, hbr, hwd⟩ := hg _ _ _ _ _ _ hc
  simp only [mm_len] at hp hd
  subst hp
  exact lv_dup hx hb hd (by rw [mm_tr_cat]; exact hu) (kk H locs ls hR hS hl)
theorem mg_pop {u : Value} (C : mm_Ok Z M X) (hc : mm_cd M pc = some (.pop, npc, a, b, wd)) (hu : u.category = 1) (kk : mG Z M X k w mc ms Q (npc, lv, st, h)) : mG Z M X k w mc ms Q (pc, lv, u :: st, h) := by
  intro H locs ls hR hS hl
  obtain ⟨hx, hb, hml, hr, hhs, hown, hnm, hlk, hts, hK, hB1, hB2, hg⟩ := C
  obtain ⟨hd, hp, hbr, hwd⟩ := hg _ _ _ _ _ _ hc
  simp only [mm_len] at hp hd
  subst hp
  exact lv_pop hx hb hd (va := mm_tr Z u) (by rw [mm_tr_cat]; exact hu) (kk H locs ls hR hS hl)
theorem mg_dup2 {u v : Value} (C : mm_Ok Z M X) (hc : mm_cd M pc = some (.dup2, npc, a, b, wd)) (hu : u.category = 1) (hv : v.category = 1) (kk : mG Z M X k w mc ms Q (npc, lv, u :: v :: u :: v :: st, h)) : mG Z M X k w mc ms Q (pc, lv, u :: v :: st, h) := by
  intro H locs ls hR hS hl
  obtain ⟨hx, hb, hml, hr, hhs, hown, hnm, hlk, hts, hK, hB1, hB2, hg⟩ := C
  obtain ⟨hd, hp, hbr, hwd⟩ := hg _ _ _ _ _ _ hc
  simp only [mm_len] at hp hd
  subst hp
  exact lv_dup2_11 hx hb hd (by rw [mm_tr_cat]; exact hu) (by rw [mm_tr_cat]; exact hv) (kk H locs ls hR hS hl)
theorem mg_dup_x1 {u v : Value} (C : mm_Ok Z M X) (hc : mm_cd M pc = some (.dup_x1, npc, a, b, wd)) (hu : u.category = 1) (hv : v.category = 1) (kk : mG Z M X k w mc ms Q (npc, lv, u :: v :: u :: st, h)) : mG Z M X k w mc ms Q (pc, lv, u :: v :: st, h) := by
  intro H locs ls hR hS hl
  obtain ⟨hx, hb, hml, hr, hhs, hown, hnm, hlk, hts, hK, hB1, hB2, hg⟩ := C
  obtain ⟨hd, hp, hbr, hwd⟩ := hg _ _ _ _ _ _ hc
  simp only [mm_len] at hp hd
  subst hp
  exact lv_dup_x1 hx hb hd (by rw [mm_tr_cat]; exact hu) (by rw [mm_tr_cat]; exact hv) (kk H locs ls hR hS hl)
theorem mg_iload_n {j : Fin 4} {x : Int32} (C : mm_Ok Z M X) (hc : mm_cd M pc = some (.iload_n j, npc, a, b, wd)) (hv : mm_get lv j = some (.int x)) (kk : mG Z M X k w mc ms Q (npc, lv, .int x :: st, h)) : mG Z M X k w mc ms Q (pc, lv, st, h) := by
  intro H locs ls hR hS hl
  obtain ⟨hx, hb, hml, hr, hhs, hown, hnm, hlk, hts, hK, hB1, hB2, hg⟩ := C
  obtain ⟨hd, hp, hbr, hwd⟩ := hg _ _ _ _ _ _ hc
  simp only [mm_len] at hp hd
  subst hp
  exact lv_iload_n hx hb hd rfl (mm_get_has hl hv) (kk H locs ls hR hS hl)
theorem mg_iload {j : Nat} {x : Int32} (C : mm_Ok Z M X) (hc : mm_cd M pc = some (.iload j, npc, a, b, wd)) (hv : mm_get lv j = some (.int x)) (kk : mG Z M X k w mc ms Q (npc, lv, .int x :: st, h)) : mG Z M X k w mc ms Q (pc, lv, st, h) := by
  intro H locs ls hR hS hl
  obtain ⟨hx, hb, hml, hr, hhs, hown, hnm, hlk, hts, hK, hB1, hB2, hg⟩ := C
  obtain ⟨hd, hp, hbr, hwd⟩ := hg _ _ _ _ _ _ hc
  simp only [mm_len] at hp hd
  subst hp
  exact lv_iload hx hb hd (mm_get_has hl hv) (kk H locs ls hR hS hl)
theorem mg_lload_n {j : Fin 4} {x : Int64} (C : mm_Ok Z M X) (hc : mm_cd M pc = some (.lload_n j, npc, a, b, wd)) (hv : mm_get lv j = some (.long x)) (kk : mG Z M X k w mc ms Q (npc, lv, .long x :: st, h)) : mG Z M X k w mc ms Q (pc, lv, st, h) := by
  intro H locs ls hR hS hl
  obtain ⟨hx, hb, hml, hr, hhs, hown, hnm, hlk, hts, hK, hB1, hB2, hg⟩ := C
  obtain ⟨hd, hp, hbr, hwd⟩ := hg _ _ _ _ _ _ hc
  simp only [mm_len] at hp hd
  subst hp
  exact lv_lload_n hx hb hd rfl (mm_get_has hl hv) (kk H locs ls hR hS hl)
theorem mg_lload {j : Nat} {x : Int64} (C : mm_Ok Z M X) (hc : mm_cd M pc = some (.lload j, npc, a, b, wd)) (hv : mm_get lv j = some (.long x)) (kk : mG Z M X k w mc ms Q (npc, lv, .long x :: st, h)) : mG Z M X k w mc ms Q (pc, lv, st, h) := by
  intro H locs ls hR hS hl
  obtain ⟨hx, hb, hml, hr, hhs, hown, hnm, hlk, hts, hK, hB1, hB2, hg⟩ := C
  obtain ⟨hd, hp, hbr, hwd⟩ := hg _ _ _ _ _ _ hc
  simp only [mm_len] at hp hd
  subst hp
  exact lv_lload hx hb hd (mm_get_has hl hv) (kk H locs ls hR hS hl)
theorem mg_aload_n {j : Fin 4} {x : Nat} (C : mm_Ok Z M X) (hc : mm_cd M pc = some (.aload_n j, npc, a, b, wd)) (hv : mm_get lv j = some (.ref x)) (kk : mG Z M X k w mc ms Q (npc, lv, .ref x :: st, h)) : mG Z M X k w mc ms Q (pc, lv, st, h) := by
  intro H locs ls hR hS hl
  obtain ⟨hx, hb, hml, hr, hhs, hown, hnm, hlk, hts, hK, hB1, hB2, hg⟩ := C
  obtain ⟨hd, hp, hbr, hwd⟩ := hg _ _ _ _ _ _ hc
  simp only [mm_len] at hp hd
  subst hp
  exact lv_aload_n hx hb hd rfl (mm_get_has hl hv) (kk H locs ls hR hS hl)
theorem mg_aload {j : Nat} {x : Nat} (C : mm_Ok Z M X) (hc : mm_cd M pc = some (.aload j, npc, a, b, wd)) (hv : mm_get lv j = some (.ref x)) (kk : mG Z M X k w mc ms Q (npc, lv, .ref x :: st, h)) : mG Z M X k w mc ms Q (pc, lv, st, h) := by
  intro H locs ls hR hS hl
  obtain ⟨hx, hb, hml, hr, hhs, hown, hnm, hlk, hts, hK, hB1, hB2, hg⟩ := C
  obtain ⟨hd, hp, hbr, hwd⟩ := hg _ _ _ _ _ _ hc
  simp only [mm_len] at hp hd
  subst hp
  exact lv_aload hx hb hd (mm_get_has hl hv) (kk H locs ls hR hS hl)
theorem mg_istore_n {j : Fin 4} {x : Int32} {lv' : mm_V} (C : mm_Ok Z M X) (hc : mm_cd M pc = some (.istore_n j, npc, a, b, wd)) (hi : (j : Nat) < M.2.2.1) (hv : mm_s1 lv (j : Nat) (.int x) = lv') (kk : mG Z M X k w mc ms Q (npc, lv', st, h)) : mG Z M X k w mc ms Q (pc, lv, .int x :: st, h) := by
  intro H locs ls hR hS hl
  obtain ⟨hx, hb, hml, hr, hhs, hown, hnm, hlk, hts, hK, hB1, hB2, hg⟩ := C
  obtain ⟨hd, hp, hbr, hwd⟩ := hg _ _ _ _ _ _ hc
  simp only [mm_len] at hp hd
  subst hp
  subst hv
  exact lv_istore_n hx hb hd rfl hl hi rfl (fun ls' hl' => kk H locs ls' hR hS (mm_has_sub hl' (mm_s1_sub Z lv (j : Nat) (.int x))))
theorem mg_istore {j : Nat} {x : Int32} {lv' : mm_V} (C : mm_Ok Z M X) (hc : mm_cd M pc = some (.istore j, npc, a, b, wd)) (hi : (j : Nat) < M.2.2.1) (hv : mm_s1 lv (j : Nat) (.int x) = lv') (kk : mG Z M X k w mc ms Q (npc, lv', st, h)) : mG Z M X k w mc ms Q (pc, lv, .int x :: st, h) := by
  intro H locs ls hR hS hl
  obtain ⟨hx, hb, hml, hr, hhs, hown, hnm, hlk, hts, hK, hB1, hB2, hg⟩ := C
  obtain ⟨hd, hp, hbr, hwd⟩ := hg _ _ _ _ _ _ hc
  simp only [mm_len] at hp hd
  subst hp
  subst hv
  exact lv_istore hx hb hd hl hi rfl (fun ls' hl' => kk H locs ls' hR hS (mm_has_sub hl' (mm_s1_sub Z lv (j : Nat) (.int x))))
theorem mg_astore_n {j : Fin 4} {x : Nat} {lv' : mm_V} (C : mm_Ok Z M X) (hc : mm_cd M pc = some (.astore_n j, npc, a, b, wd)) (hi : (j : Nat) < M.2.2.1) (hv : mm_s1 lv (j : Nat) (.ref x) = lv') (kk : mG Z M X k w mc ms Q (npc, lv', st, h)) : mG Z M X k w mc ms Q (pc, lv, .ref x :: st, h) := by
  intro H locs ls hR hS hl
  obtain ⟨hx, hb, hml, hr, hhs, hown, hnm, hlk, hts, hK, hB1, hB2, hg⟩ := C
  obtain ⟨hd, hp, hbr, hwd⟩ := hg _ _ _ _ _ _ hc
  simp only [mm_len] at hp hd
  subst hp
  subst hv
  exact lv_astore_n hx hb hd rfl hl hi rfl (fun ls' hl' => kk H locs ls' hR hS (mm_has_sub hl' (mm_s1_sub Z lv (j : Nat) (.ref x))))
theorem mg_astore {j : Nat} {x : Nat} {lv' : mm_V} (C : mm_Ok Z M X) (hc : mm_cd M pc = some (.astore j, npc, a, b, wd)) (hi : (j : Nat) < M.2.2.1) (hv : mm_s1 lv (j : Nat) (.ref x) = lv') (kk : mG Z M X k w mc ms Q (npc, lv', st, h)) : mG Z M X k w mc ms Q (pc, lv, .ref x :: st, h) := by
  intro H locs ls hR hS hl
  obtain ⟨hx, hb, hml, hr, hhs, hown, hnm, hlk, hts, hK, hB1, hB2, hg⟩ := C
  obtain ⟨hd, hp, hbr, hwd⟩ := hg _ _ _ _ _ _ hc
  simp only [mm_len] at hp hd
  subst hp
  subst hv
  exact lv_astore hx hb hd hl hi rfl (fun ls' hl' => kk H locs ls' hR hS (mm_has_sub hl' (mm_s1_sub Z lv (j : Nat) (.ref x))))
theorem mg_lstore_n {j : Fin 4} {x : Int64} {lv' : mm_V} (C : mm_Ok Z M X) (hc : mm_cd M pc = some (.lstore_n j, npc, a, b, wd)) (hi : (j : Nat) + 1 < M.2.2.1) (hv : mm_s2 lv (j : Nat) (.long x) = lv') (kk : mG Z M X k w mc ms Q (npc, lv', st, h)) : mG Z M X k w mc ms Q (pc, lv, .long x :: st, h) := by
  intro H locs ls hR hS hl
  obtain ⟨hx, hb, hml, hr, hhs, hown, hnm, hlk, hts, hK, hB1, hB2, hg⟩ := C
  obtain ⟨hd, hp, hbr, hwd⟩ := hg _ _ _ _ _ _ hc
  simp only [mm_len] at hp hd
  subst hp
  subst hv
  exact lv_lstore_n hx hb hd rfl hl hi rfl (fun ls' hl' => kk H locs ls' hR hS (mm_has_sub hl' (mm_s2_sub Z lv (j : Nat) (.long x))))
theorem mg_lstore {j : Nat} {x : Int64} {lv' : mm_V} (C : mm_Ok Z M X) (hc : mm_cd M pc = some (.lstore j, npc, a, b, wd)) (hi : (j : Nat) + 1 < M.2.2.1) (hv : mm_s2 lv (j : Nat) (.long x) = lv') (kk : mG Z M X k w mc ms Q (npc, lv', st, h)) : mG Z M X k w mc ms Q (pc, lv, .long x :: st, h) := by
  intro H locs ls hR hS hl
  obtain ⟨hx, hb, hml, hr, hhs, hown, hnm, hlk, hts, hK, hB1, hB2, hg⟩ := C
  obtain ⟨hd, hp, hbr, hwd⟩ := hg _ _ _ _ _ _ hc
  simp only [mm_len] at hp hd
  subst hp
  subst hv
  exact lv_lstore hx hb hd hl hi rfl (fun ls' hl' => kk H locs ls' hR hS (mm_has_sub hl' (mm_s2_sub Z lv (j : Nat) (.long x))))
theorem mg_iinc {j : Nat} {n : Int} {x v : Int32} {lv' : mm_V} (C : mm_Ok Z M X) (hc : mm_cd M pc = some (.iinc j n, npc, a, b, wd)) (hi : j < M.2.2.1) (hg0 : mm_get lv j = some (.int x)) (hv : x + Int32.ofInt n = v) (hl0 : mm_s1 lv j (.int v) = lv') (kk : mG Z M X k w mc ms Q (npc, lv', st, h)) : mG Z M X k w mc ms Q (pc, lv, st, h) := by
  intro H locs ls hR hS hl
  obtain ⟨hx, hb, hml, hr, hhs, hown, hnm, hlk, hts, hK, hB1, hB2, hg⟩ := C
  obtain ⟨hd, hp, hbr, hwd⟩ := hg _ _ _ _ _ _ hc
  simp only [mm_len] at hp hd
  subst hp
  subst hl0
  obtain ⟨q, hq, e9⟩ := Option.map_eq_some_iff.mp hg0
  have h1 : q.1 = j := by simpa using List.find?_some hq
  obtain ⟨n9, hn9⟩ := List.getElem?_of_mem (List.mem_of_find?_eq_some hq)
  have hk9 : (lv.map fun q => (q.1, mm_tr Z q.2))[n9]? = some (j, .int x) := by
    rw [List.getElem?_map, hn9]
    show some (q.1, mm_tr Z q.2) = _
    rw [h1, e9]; rfl
  exact lv_iinc hx hb hd hl hk9 hv hi rfl (fun ls' hl' => kk H locs ls' hR hS (mm_has_sub hl' (mm_s1_sub Z lv j (.int v))))
theorem mg_icmp_eq {off : Int} {x y : Int32} (C : mm_Ok Z M X) (hc : mm_cd M pc = some (.if_icmp .eq off, npc, a, b, wd)) (kt : x = y → mG Z M X k w mc ms Q (a, lv, st, h)) (kf : ¬ x = y → mG Z M X k w mc ms Q (npc, lv, st, h)) : mG Z M X k w mc ms Q (pc, lv, .int y :: .int x :: st, h) := by
  intro H locs ls hR hS hl
  obtain ⟨hx, hb, hml, hr, hhs, hown, hnm, hlk, hts, hK, hB1, hB2, hg⟩ := C
  obtain ⟨hd, hp, hbr, hwd⟩ := hg _ _ _ _ _ _ hc
  simp only [mm_len] at hp hd
  subst hp
  exact lv_icmp_eq (tgt := a) hx hb hd (of_decide_eq_true hbr) (fun c9 => kt c9 H locs ls hR hS hl) (fun c9 => kf c9 H locs ls hR hS hl)
theorem mg_if_eq {off : Int} {x : Int32} (C : mm_Ok Z M X) (hc : mm_cd M pc = some (.ifCond .eq off, npc, a, b, wd)) (kt : x = 0 → mG Z M X k w mc ms Q (a, lv, st, h)) (kf : ¬ x = 0 → mG Z M X k w mc ms Q (npc, lv, st, h)) : mG Z M X k w mc ms Q (pc, lv, .int x :: st, h) := by
  intro H locs ls hR hS hl
  obtain ⟨hx, hb, hml, hr, hhs, hown, hnm, hlk, hts, hK, hB1, hB2, hg⟩ := C
  obtain ⟨hd, hp, hbr, hwd⟩ := hg _ _ _ _ _ _ hc
  simp only [mm_len] at hp hd
  subst hp
  exact lv_if_eq (tgt := a) hx hb hd (of_decide_eq_true hbr) (fun c9 => kt c9 H locs ls hR hS hl) (fun c9 => kf c9 H locs ls hR hS hl)
theorem mg_icmp_ne {off : Int} {x y : Int32} (C : mm_Ok Z M X) (hc : mm_cd M pc = some (.if_icmp .ne off, npc, a, b, wd)) (kt : ¬ x = y → mG Z M X k w mc ms Q (a, lv, st, h)) (kf : x = y → mG Z M X k w mc ms Q (npc, lv, st, h)) : mG Z M X k w mc ms Q (pc, lv, .int y :: .int x :: st, h) := by
  intro H locs ls hR hS hl
  obtain ⟨hx, hb, hml, hr, hhs, hown, hnm, hlk, hts, hK, hB1, hB2, hg⟩ := C
  obtain ⟨hd, hp, hbr, hwd⟩ := hg _ _ _ _ _ _ hc
  simp only [mm_len] at hp hd
  subst hp
  exact lv_icmp_ne (tgt := a) hx hb hd (of_decide_eq_true hbr) (fun c9 => kt c9 H locs ls hR hS hl) (fun c9 => kf c9 H locs ls hR hS hl)
theorem mg_if_ne {off : Int} {x : Int32} (C : mm_Ok Z M X) (hc : mm_cd M pc = some (.ifCond .ne off, npc, a, b, wd)) (kt : ¬ x = 0 → mG Z M X k w mc ms Q (a, lv, st, h)) (kf : x = 0 → mG Z M X k w mc ms Q (npc, lv, st, h)) : mG Z M X k w mc ms Q (pc, lv, .int x :: st, h) := by
  intro H locs ls hR hS hl
  obtain ⟨hx, hb, hml, hr, hhs, hown, hnm, hlk, hts, hK, hB1, hB2, hg⟩ := C
  obtain ⟨hd, hp, hbr, hwd⟩ := hg _ _ _ _ _ _ hc
  simp only [mm_len] at hp hd
  subst hp
  exact lv_if_ne (tgt := a) hx hb hd (of_decide_eq_true hbr) (fun c9 => kt c9 H locs ls hR hS hl) (fun c9 => kf c9 H locs ls hR hS hl)
theorem mg_icmp_lt {off : Int} {x y : Int32} (C : mm_Ok Z M X) (hc : mm_cd M pc = some (.if_icmp .lt off, npc, a, b, wd)) (kt : x < y → mG Z M X k w mc ms Q (a, lv, st, h)) (kf : ¬ x < y → mG Z M X k w mc ms Q (npc, lv, st, h)) : mG Z M X k w mc ms Q (pc, lv, .int y :: .int x :: st, h) := by
  intro H locs ls hR hS hl
  obtain ⟨hx, hb, hml, hr, hhs, hown, hnm, hlk, hts, hK, hB1, hB2, hg⟩ := C
  obtain ⟨hd, hp, hbr, hwd⟩ := hg _ _ _ _ _ _ hc
  simp only [mm_len] at hp hd
  subst hp
  exact lv_icmp_lt (tgt := a) hx hb hd (of_decide_eq_true hbr) (fun c9 => kt c9 H locs ls hR hS hl) (fun c9 => kf c9 H locs ls hR hS hl)
theorem mg_if_lt {off : Int} {x : Int32} (C : mm_Ok Z M X) (hc : mm_cd M pc = some (.ifCond .lt off, npc, a, b, wd)) (kt : x < 0 → mG Z M X k w mc ms Q (a, lv, st, h)) (kf : ¬ x < 0 → mG Z M X k w mc ms Q (npc, lv, st, h)) : mG Z M X k w mc ms Q (pc, lv, .int x :: st, h) := by
  intro H locs ls hR hS hl
  obtain ⟨hx, hb, hml, hr, hhs, hown, hnm, hlk, hts, hK, hB1, hB2, hg⟩ := C
  obtain ⟨hd, hp, hbr, hwd⟩ := hg _ _ _ _ _ _ hc
  simp only [mm_len] at hp hd
  subst hp
  exact lv_if_lt (tgt := a) hx hb hd (of_decide_eq_true hbr) (fun c9 => kt c9 H locs ls hR hS hl) (fun c9 => kf c9 H locs ls hR hS hl)
theorem mg_icmp_ge {off : Int} {x y : Int32} (C : mm_Ok Z M X) (hc : mm_cd M pc = some (.if_icmp .ge off, npc, a, b, wd)) (kt : y ≤ x → mG Z M X k w mc ms Q (a, lv, st, h)) (kf : ¬ y ≤ x → mG Z M X k w mc ms Q (npc, lv, st, h)) : mG Z M X k w mc ms Q (pc, lv, .int y :: .int x :: st, h) := by
  intro H locs ls hR hS hl
  obtain ⟨hx, hb, hml, hr, hhs, hown, hnm, hlk, hts, hK, hB1, hB2, hg⟩ := C
  obtain ⟨hd, hp, hbr, hwd⟩ := hg _ _ _ _ _ _ hc
  simp only [mm_len] at hp hd
  subst hp
  exact lv_icmp_ge (tgt := a) hx hb hd (of_decide_eq_true hbr) (fun c9 => kt c9 H locs ls hR hS hl) (fun c9 => kf c9 H locs ls hR hS hl)
theorem mg_if_ge {off : Int} {x : Int32} (C : mm_Ok Z M X) (hc : mm_cd M pc = some (.ifCond .ge off, npc, a, b, wd)) (kt : 0 ≤ x → mG Z M X k w mc ms Q (a, lv, st, h)) (kf : ¬ 0 ≤ x → mG Z M X k w mc ms Q (npc, lv, st, h)) : mG Z M X k w mc ms Q (pc, lv, .int x :: st, h) := by
  intro H locs ls hR hS hl
  obtain ⟨hx, hb, hml, hr, hhs, hown, hnm, hlk, hts, hK, hB1, hB2, hg⟩ := C
  obtain ⟨hd, hp, hbr, hwd⟩ := hg _ _ _ _ _ _ hc
  simp only [mm_len] at hp hd
  subst hp
  exact lv_if_ge (tgt := a) hx hb hd (of_decide_eq_true hbr) (fun c9 => kt c9 H locs ls hR hS hl) (fun c9 => kf c9 H locs ls hR hS hl)
theorem mg_icmp_gt {off : Int} {x y : Int32} (C : mm_Ok Z M X) (hc : mm_cd M pc = some (.if_icmp .gt off, npc, a, b, wd)) (kt : y < x → mG Z M X k w mc ms Q (a, lv, st, h)) (kf : ¬ y < x → mG Z M X k w mc ms Q (npc, lv, st, h)) : mG Z M X k w mc ms Q (pc, lv, .int y :: .int x :: st, h) := by
  intro H locs ls hR hS hl
  obtain ⟨hx, hb, hml, hr, hhs, hown, hnm, hlk, hts, hK, hB1, hB2, hg⟩ := C
  obtain ⟨hd, hp, hbr, hwd⟩ := hg _ _ _ _ _ _ hc
  simp only [mm_len] at hp hd
  subst hp
  exact lv_icmp_gt (tgt := a) hx hb hd (of_decide_eq_true hbr) (fun c9 => kt c9 H locs ls hR hS hl) (fun c9 => kf c9 H locs ls hR hS hl)
theorem mg_if_gt {off : Int} {x : Int32} (C : mm_Ok Z M X) (hc : mm_cd M pc = some (.ifCond .gt off, npc, a, b, wd)) (kt : 0 < x → mG Z M X k w mc ms Q (a, lv, st, h)) (kf : ¬ 0 < x → mG Z M X k w mc ms Q (npc, lv, st, h)) : mG Z M X k w mc ms Q (pc, lv, .int x :: st, h) := by
  intro H locs ls hR hS hl
  obtain ⟨hx, hb, hml, hr, hhs, hown, hnm, hlk, hts, hK, hB1, hB2, hg⟩ := C
  obtain ⟨hd, hp, hbr, hwd⟩ := hg _ _ _ _ _ _ hc
  simp only [mm_len] at hp hd
  subst hp
  exact lv_if_gt (tgt := a) hx hb hd (of_decide_eq_true hbr) (fun c9 => kt c9 H locs ls hR hS hl) (fun c9 => kf c9 H locs ls hR hS hl)
theorem mg_icmp_le {off : Int} {x y : Int32} (C : mm_Ok Z M X) (hc : mm_cd M pc = some (.if_icmp .le off, npc, a, b, wd)) (kt : x ≤ y → mG Z M X k w mc ms Q (a, lv, st, h)) (kf : ¬ x ≤ y → mG Z M X k w mc ms Q (npc, lv, st, h)) : mG Z M X k w mc ms Q (pc, lv, .int y :: .int x :: st, h) := by
  intro H locs ls hR hS hl
  obtain ⟨hx, hb, hml, hr, hhs, hown, hnm, hlk, hts, hK, hB1, hB2, hg⟩ := C
  obtain ⟨hd, hp, hbr, hwd⟩ := hg _ _ _ _ _ _ hc
  simp only [mm_len] at hp hd
  subst hp
  exact lv_icmp_le (tgt := a) hx hb hd (of_decide_eq_true hbr) (fun c9 => kt c9 H locs ls hR hS hl) (fun c9 => kf c9 H locs ls hR hS hl)
theorem mg_if_le {off : Int} {x : Int32} (C : mm_Ok Z M X) (hc : mm_cd M pc = some (.ifCond .le off, npc, a, b, wd)) (kt : x ≤ 0 → mG Z M X k w mc ms Q (a, lv, st, h)) (kf : ¬ x ≤ 0 → mG Z M X k w mc ms Q (npc, lv, st, h)) : mG Z M X k w mc ms Q (pc, lv, .int x :: st, h) := by
  intro H locs ls hR hS hl
  obtain ⟨hx, hb, hml, hr, hhs, hown, hnm, hlk, hts, hK, hB1, hB2, hg⟩ := C
  obtain ⟨hd, hp, hbr, hwd⟩ := hg _ _ _ _ _ _ hc
  simp only [mm_len] at hp hd
  subst hp
  exact lv_if_le (tgt := a) hx hb hd (of_decide_eq_true hbr) (fun c9 => kt c9 H locs ls hR hS hl) (fun c9 => kf c9 H locs ls hR hS hl)
theorem mg_goto {off : Int} (C : mm_Ok Z M X) (hc : mm_cd M pc = some (.goto off, npc, a, b, wd)) (kk : mG Z M X k w mc ms Q (a, lv, st, h)) : mG Z M X k w mc ms Q (pc, lv, st, h) := by
  intro H locs ls hR hS hl
  obtain ⟨hx, hb, hml, hr, hhs, hown, hnm, hlk, hts, hK, hB1, hB2, hg⟩ := C
  obtain ⟨hd, hp, hbr, hwd⟩ := hg _ _ _ _ _ _ hc
  simp only [mm_len] at hp hd
  subst hp
  exact lv_goto (tgt := a) hx hb hd (of_decide_eq_true hbr) (kk H locs ls hR hS hl)
theorem mg_lcmp {x y : Int64} (C : mm_Ok Z M X) (hc : mm_cd M pc = some (.lcmp, npc, a, b, wd)) (kk : mG Z M X k w mc ms Q (npc, lv, .int (lg_cmp x y) :: st, h)) : mG Z M X k w mc ms Q (pc, lv, .long y :: .long x :: st, h) := by
  intro H locs ls hR hS hl
  obtain ⟨hx, hb, hml, hr, hhs, hown, hnm, hlk, hts, hK, hB1, hB2, hg⟩ := C
  obtain ⟨hd, hp, hbr, hwd⟩ := hg _ _ _ _ _ _ hc
  simp only [mm_len] at hp hd
  subst hp
  exact W.lcmp hx hb hd (kk H locs ls hR hS hl)
theorem mg_tableOut {dflt lo hi : Int} {offs : Array Int} {x : Int32} {tgt : Nat} (C : mm_Ok Z M X) (hc : mm_cd M pc = some (.tableswitch dflt lo hi offs, npc, a, b, wd)) (hx0 : x.toInt < lo ∨ hi < x.toInt) (ht : (pc : Int) + dflt = (tgt : Int)) (kk : mG Z M X k w mc ms Q (tgt, lv, st, h)) : mG Z M X k w mc ms Q (pc, lv, .int x :: st, h) := by
  intro H locs ls hR hS hl
  obtain ⟨hx, hb, hml, hr, hhs, hown, hnm, hlk, hts, hK, hB1, hB2, hg⟩ := C
  obtain ⟨hd, hp, hbr, hwd⟩ := hg _ _ _ _ _ _ hc
  exact lv_tableOut hx hb hd hx0 ht (kk H locs ls hR hS hl)
theorem mg_tableIn {dflt lo hi : Int} {offs : Array Int} {x : Int32} {off : Int} {tgt : Nat} (C : mm_Ok Z M X) (hc : mm_cd M pc = some (.tableswitch dflt lo hi offs, npc, a, b, wd)) (h1 : ¬ x.toInt < lo) (h2 : ¬ hi < x.toInt) (ho : offs[(x.toInt - lo).toNat]? = some off) (ht : (pc : Int) + off = (tgt : Int)) (kk : mG Z M X k w mc ms Q (tgt, lv, st, h)) : mG Z M X k w mc ms Q (pc, lv, .int x :: st, h) := by
  intro H locs ls hR hS hl
  obtain ⟨hx, hb, hml, hr, hhs, hown, hnm, hlk, hts, hK, hB1, hB2, hg⟩ := C
  obtain ⟨hd, hp, hbr, hwd⟩ := hg _ _ _ _ _ _ hc
  exact lv_tableIn hx hb hd h1 h2 ho ht (kk H locs ls hR hS hl)
/-- the returns -/
theorem mg_ret_q {v : Option Value} {H : Heap} (hR : mm_Rel Z h H) (hq : Q (.inl v) h) : ∀ t : State, t.heap = H → (mt_s X).WarmedH t.vm → mm_Qc Z Q (mt_a X) (mt_s X) (.returned (v.map (mm_tr Z))) t := fun t ht _ => ⟨v, h, rfl, hq, by rw [ht]; exact hR⟩
theorem mg_ireturn {x : Int32} (C : mm_Ok Z M X) (hc : mm_cd M pc = some (.ireturn, npc, a, b, wd)) (hk : k ≤ mc) (hw : w ≤ ms) (hty : M.2.2.2.1 = some .int) (hq : Q (.inl (some (.int x))) h) : mG Z M X k w mc ms Q (pc, lv, [.int x], h) := by
  intro H locs ls hR hS hl
  obtain ⟨hx, hb, hml, hr, hhs, hown, hnm, hlk, hts, hK, hB1, hB2, hg⟩ := C
  obtain ⟨hd, hp, hbr, hwd⟩ := hg _ _ _ _ _ _ hc
  simp only [mm_len] at hp hd
  subst hp
  refine W.widen hk hw (vx_ret ?_)
  exact W.iret (v := x) hx hb (hr.trans hty) (mg_ret_q (v := some (.int x)) hR hq) hS.2.2 hd hlk
theorem mg_zreturn {x : Int32} {ty : FieldType} (C : mm_Ok Z M X) (hc : mm_cd M pc = some (.ireturn, npc, a, b, wd)) (hk : k ≤ mc) (hw : w ≤ ms) (hty : M.2.2.2.1 = some ty) (hn : narrow ty (.int x) = .int x) (hq : Q (.inl (some (.int x))) h) : mG Z M X k w mc ms Q (pc, lv, [.int x], h) := by
  intro H locs ls hR hS hl
  obtain ⟨hx, hb, hml, hr, hhs, hown, hnm, hlk, hts, hK, hB1, hB2, hg⟩ := C
  obtain ⟨hd, hp, hbr, hwd⟩ := hg _ _ _ _ _ _ hc
  simp only [mm_len] at hp hd
  subst hp
  refine W.widen hk hw (vx_ret ?_)
  exact W.zret (v := x) hx hb (hr.trans hty) hn (mg_ret_q (v := some (.int x)) hR hq) hS.2.2 hd hlk
theorem mg_lreturn {x : Int64} (C : mm_Ok Z M X) (hc : mm_cd M pc = some (.lreturn, npc, a, b, wd)) (hk : k ≤ mc) (hw : w ≤ ms) (hty : M.2.2.2.1 = some .long) (hq : Q (.inl (some (.long x))) h) : mG Z M X k w mc ms Q (pc, lv, [.long x], h) := by
  intro H locs ls hR hS hl
  obtain ⟨hx, hb, hml, hr, hhs, hown, hnm, hlk, hts, hK, hB1, hB2, hg⟩ := C
  obtain ⟨hd, hp, hbr, hwd⟩ := hg _ _ _ _ _ _ hc
  simp only [mm_len] at hp hd
  subst hp
  refine W.widen hk hw (vx_ret ?_)
  exact W.lret (v := x) hx hb (hr.trans hty) (mg_ret_q (v := some (.long x)) hR hq) hS.2.2 hd hlk
theorem mg_return (C : mm_Ok Z M X) (hc : mm_cd M pc = some (.return_, npc, a, b, wd)) (hk : k ≤ mc) (hw : w ≤ ms) (hty : M.2.2.2.1 = none) (hq : Q (.inl none) h) : mG Z M X k w mc ms Q (pc, lv, [], h) := by
  intro H locs ls hR hS hl
  obtain ⟨hx, hb, hml, hr, hhs, hown, hnm, hlk, hts, hK, hB1, hB2, hg⟩ := C
  obtain ⟨hd, hp, hbr, hwd⟩ := hg _ _ _ _ _ _ hc
  simp only [mm_len] at hp hd
  subst hp
  refine W.widen hk hw (vx_ret ?_)
  exact W.vret hx hb (hr.trans hty) (mg_ret_q (v := none) hR hq) hS.2.2 hd hlk
end MR
