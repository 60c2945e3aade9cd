/-! THE SMALL MACHINE: frames and heaps by numbers. Cells made since the law's entry have the numbers 0, 1, 2 ..; String constants have the numbers 1000000 + i. -/
abbrev mm_E : Type := (FieldType × vp_A) ⊕ (Nat × List Value)
abbrev mm_H : Type := Nat × (Nat → Option mm_E)
abbrev mm_V : Type := List (Nat × Value)
abbrev mm_F : Type := Nat × mm_V × List Value × mm_H
abbrev mm_O : Type := Option Value ⊕ Nat
/-- an instruction, the next pc, two numbers (a branch's target; a field's class and place ..), the word of the tables that it needs -/
abbrev mm_I : Type := Instr × Nat × Nat × Nat × Cond
/-- a method: its name, bytes, locals, answer, handlers, code -/
abbrev mm_M : Type := MethodName × ByteArray × Nat × Option FieldType × List (Nat × Nat × Nat × Nat) × List (Nat × mm_I)
/-- the world: the launch, the classes' numbers and slots, the heap at the law's entry, where the String constants lie, the classes of arrays -/
abbrev mm_Z : Type := Launch × va_G × Heap × (Nat → Nat) × (FieldType → ClassId)
abbrev mm_cl : List vw_C := [(RX0, TX0, 13), (RX1, TX1, 5), (RX2, TX2, 7), (RX3, TX3, 9), (RX4, TX4, 6), (RX5, TX5, 8), (RX6, TX6, 13), (RX7, TX7, 6), (RX8, TX8, 1), (RX9, TX9, 9), (RX10, TX10, 5), (RX11, TX11, 13), (RX12, TX12, 61)]
def mm_ad (Z : mm_Z) (k : Nat) : Nat := if k < 1000000 then Z.2.2.1.size + k else Z.2.2.2.1 (k - 1000000)
def mm_tr (Z : mm_Z) : Value → Value
  | .ref k => .ref (mm_ad Z k)
  | v => v
def mm_tA (Z : mm_Z) : vp_A → vp_A
  | (n, .inr (.inr (.inr (.inr f)))) => (n, .inr (.inr (.inr (.inr fun j => (f j).map (mm_ad Z)))))
  | a => a
def mm_tE (Z : mm_Z) : mm_E → va_E
  | .inl (ty, a) => .inl (Z.2.2.2.2 ty, mm_tA Z a)
  | .inr (ci, fs) => .inr (ci, fs.map (mm_tr Z))
abbrev mm_B (Z : mm_Z) : Nat := Z.2.2.1.size
/-- the small heap h is the machine's heap -/
def mm_Rel (Z : mm_Z) (h : mm_H) (H : Heap) : Prop := H.size = mm_B Z + h.1 ∧ h.1 ≤ 1000000 ∧ (∀ q : Nat, q < mm_B Z → H[q]? = Z.2.2.1[q]?) ∧ ∀ (k : Nat) (e : mm_E), h.2 k = some e → k < h.1 ∧ va_at Z.2.1 mm_cl (mm_B Z + k, mm_tE Z e) H
def mm_types : List FieldType := [.int, .long, .byte, .boolean, .object "CloudTakes$Shot", .object "CloudTakes$State", .object "java/lang/String", .array .int]
def mm_tys (Z : mm_Z) : List (ClassId × FieldType) := mm_types.map fun t => (Z.2.2.2.2 t, t)
def mm_up (h : mm_H) (k : Nat) (e : mm_E) : mm_H := (h.1, fun j => if j = k then some e else h.2 j)
theorem mm_up_at (h : mm_H) (k : Nat) (e : mm_E) : (mm_up h k e).2 k = some e := by simp [mm_up]
theorem mm_up_ne (h : mm_H) {k j : Nat} (e : mm_E) (hj : j ≠ k) : (mm_up h k e).2 j = h.2 j := by simp [mm_up, hj]
theorem mm_tr_int (Z : mm_Z) (x : Int32) : mm_tr Z (.int x) = .int x := rfl
theorem mm_tr_long (Z : mm_Z) (x : Int64) : mm_tr Z (.long x) = .long x := rfl
theorem mm_tr_null (Z : mm_Z) : mm_tr Z .null = .null := rfl
theorem mm_tr_ref (Z : mm_Z) (k : Nat) : mm_tr Z (.ref k) = .ref (mm_ad Z k) := rfl
theorem mm_tr_cat (Z : mm_Z) (v : Value) : (mm_tr Z v).category = v.category := by cases v <;> rfl
theorem mm_ad_lt (Z : mm_Z) {k : Nat} (h : k < 1000000) : mm_ad Z k = mm_B Z + k := if_pos h
/-- writing one cell -/
theorem mm_Rel.put {Z : mm_Z} {h : mm_H} {H H1 : Heap} {k : Nat} {e0 e : mm_E} (hR : mm_Rel Z h H) (hk : h.2 k = some e0) (z : H1.size = H.size) (o : ∀ q : Nat, q ≠ mm_B Z + k → H1[q]? = H[q]?) (ha : va_at Z.2.1 mm_cl (mm_B Z + k, mm_tE Z e) H1) : mm_Rel Z (mm_up h k e) H1 := by
  obtain ⟨r1, r2, r3, r4⟩ := hR
  have hlt := (r4 k e0 hk).1
  refine ⟨by rw [z]; exact r1, r2, fun q hq => by rw [o q (by omega)]; exact r3 q hq, fun j e' hj => ?_⟩
  by_cases hjk : j = k
  · subst hjk
    rw [mm_up_at] at hj
    cases hj
    exact ⟨hlt, ha⟩
  · rw [mm_up_ne h e hjk] at hj
    obtain ⟨h1, h2⟩ := r4 j e' hj
    exact ⟨h1, h2.kept (o _ (by show mm_B Z + j ≠ mm_B Z + k; omega))⟩
/-- a new cell -/
def mm_new (h : mm_H) (e : mm_E) : mm_H := (h.1 + 1, fun j => if j = h.1 then some e else h.2 j)
theorem mm_Rel.new {Z : mm_Z} {h : mm_H} {H H1 : Heap} {e : mm_E} (hR : mm_Rel Z h H) (hn : h.1 < 1000000) (z : H1.size = H.size + 1) (o : ∀ q : Nat, q < H.size → H1[q]? = H[q]?) (ha : va_at Z.2.1 mm_cl (mm_B Z + h.1, mm_tE Z e) H1) : mm_Rel Z (mm_new h e) H1 := by
  obtain ⟨r1, r2, r3, r4⟩ := hR
  refine ⟨by rw [z, r1]; rfl, hn, fun q hq => by rw [o q (by omega)]; exact r3 q hq, fun j e' hj => ?_⟩
  by_cases hjk : j = h.1
  · subst hjk
    have : some e = some e' := by simpa [mm_new] using hj
    cases this
    exact ⟨Nat.lt_succ_self _, ha⟩
  · have hj' : h.2 j = some e' := by simpa [mm_new, hjk] using hj
    obtain ⟨h1, h2⟩ := r4 j e' hj'
    exact ⟨Nat.lt_succ_of_lt h1, h2.kept (o _ (by show mm_B Z + j < H.size; omega))⟩
/-- the heap grew by cells that nobody names -/
theorem mm_Rel.grown {Z : mm_Z} {h : mm_H} {H H1 : Heap} (hR : mm_Rel Z h H) (z : H.size ≤ H1.size) (hn : H1.size ≤ mm_B Z + 1000000) (o : ∀ q : Nat, q < H.size → H1[q]? = H[q]?) : mm_Rel Z (H1.size - mm_B Z, h.2) H1 := by
  obtain ⟨r1, r2, r3, r4⟩ := hR
  refine ⟨by show H1.size = mm_B Z + (H1.size - mm_B Z); omega, by show H1.size - mm_B Z ≤ 1000000; omega, fun q hq => by rw [o q (by omega)]; exact r3 q hq, fun j e' hj => ?_⟩
  obtain ⟨h1, h2⟩ := r4 j e' hj
  exact ⟨by show j < H1.size - mm_B Z; omega, h2.kept (o _ (by show mm_B Z + j < H.size; omega))⟩
/-! the words of the tables: those that a callee may be handed -/
def mm_tbl : List Cond := lw_tbl.filter goodWord
theorem mm_tbl_in {w : Cond} (h : w ∈ mm_tbl) : w ∈ lw_tbl := (List.mem_filter.mp h).1
theorem mm_tbl_good : GoodIn mm_tbl mm_tbl := fun w h => ⟨h, good_of_word (List.mem_filter.mp h).2⟩
theorem mm_in {w : Cond} (i : Nat) (h : lw_tbl[i]? = some w) (hg : goodWord w = true) : w ∈ mm_tbl := List.mem_filter.mpr ⟨List.mem_of_getElem? h, hg⟩
/-! the code of a method, checked once -/
def mm_cd (M : mm_M) (pc : Nat) : Option mm_I := (M.2.2.2.2.2.find? fun q => q.1 == pc).map (·.2)
/-- the branch goes where the row says -/
def mm_br (pc a : Nat) : Instr → Bool
  | .ifCond _ off => decide ((pc : Int) + off = (a : Int))
  | .if_icmp _ off => decide ((pc : Int) + off = (a : Int))
  | .if_acmp _ off => decide ((pc : Int) + off = (a : Int))
  | .goto off => decide ((pc : Int) + off = (a : Int))
  | .ifnull off => decide ((pc : Int) + off = (a : Int))
  | .ifnonnull off => decide ((pc : Int) + off = (a : Int))
  | _ => true
/-- the length of an instruction (of a switch: as the row says) -/
def mm_len (pc npc : Nat) : Instr → Nat
  | .bipush _ => 2
  | .sipush _ => 3
  | .ldc _ => 2
  | .ldc_w _ => 3
  | .ldc2_w _ => 3
  | .iload _ => 2
  | .lload _ => 2
  | .aload _ => 2
  | .istore _ => 2
  | .lstore _ => 2
  | .astore _ => 2
  | .iinc _ _ => 3
  | .ifCond _ _ => 3
  | .if_icmp _ _ => 3
  | .if_acmp _ _ => 3
  | .ifnull _ => 3
  | .ifnonnull _ => 3
  | .goto _ => 3
  | .getfield _ => 3
  | .putfield _ => 3
  | .getstatic _ => 3
  | .new _ => 3
  | .newarray _ => 2
  | .anewarray _ => 3
  | .multianewarray _ _ => 4
  | .invokevirtual _ => 3
  | .invokespecial _ => 3
  | .invokestatic _ => 3
  | .tableswitch .. => npc - pc
  | .lookupswitch .. => npc - pc
  | _ => 1
def mm_wok (i : Nat) (w : Cond) : Bool := match w with
  | .tt => true
  | w => decide (lw_tbl[i]? = some w) && goodWord w
def mm_chk (cc : ByteArray) (q : (Nat × mm_I) × Nat) : Bool :=
  decide (q.1.2.2.1 = q.1.1 + mm_len q.1.1 q.1.2.2.1 q.1.2.1) && decide (decode cc q.1.1 = .ok (q.1.2.1, mm_len q.1.1 q.1.2.2.1 q.1.2.1)) && mm_br q.1.1 q.1.2.2.2.1 q.1.2.1 && mm_wok q.2 q.1.2.2.2.2.2
/-- what the check of a method's code says -/
def mm_good (M : mm_M) : Prop := ∀ (pc : Nat) (i : Instr) (npc a b : Nat) (w : Cond), mm_cd M pc = some (i, npc, a, b, w) → decode M.2.1 pc = .ok (i, mm_len pc npc i) ∧ npc = pc + mm_len pc npc i ∧ mm_br pc a i = true ∧ (w = .tt ∨ w ∈ mm_tbl)
theorem mm_good_of {M : mm_M} (ps : List Nat) (hl : M.2.2.2.2.2.length = ps.length) (h : (M.2.2.2.2.2.zip ps).all (mm_chk M.2.1) = true) : mm_good M := by
  intro pc i npc a b w hc
  obtain ⟨q, hq, e⟩ := Option.map_eq_some_iff.mp hc
  have h1 : q.1 = pc := by simpa using List.find?_some hq
  have hm : q ∈ M.2.2.2.2.2 := List.mem_of_find?_eq_some hq
  obtain ⟨n, hn⟩ := List.getElem?_of_mem hm
  have hlt : n < ps.length := by rw [← hl]; exact (List.getElem?_eq_some_iff.mp hn).1
  have hz : (q, ps[n]) ∈ M.2.2.2.2.2.zip ps := by
    apply List.mem_of_getElem? (i := n)
    rw [List.getElem?_zip_eq_some]
    exact ⟨hn, List.getElem?_eq_getElem hlt⟩
  have hk := List.all_eq_true.mp h _ hz
  obtain ⟨qp, qi⟩ := q
  subst h1
  cases e
  simp only [mm_chk, Bool.and_eq_true, decide_eq_true_eq] at hk
  obtain ⟨⟨⟨k1, k2⟩, k3⟩, k4⟩ := hk
  refine ⟨k2, k1, k3, ?_⟩
  unfold mm_wok at k4
  split at k4
  · exact Or.inl rfl
  · simp only [Bool.and_eq_true, decide_eq_true_eq] at k4
    exact Or.inr (mm_in _ k4.1 k4.2)
