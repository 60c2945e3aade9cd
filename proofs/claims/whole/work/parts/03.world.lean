/-! THE WORLD: what the tables and the cells below the law's own say, at any state of the run -/
def mm_sr : List (String × Nat × String × Nat) := [("CloudTakes", 89, "the tape has not so many bytes", 0), ("CloudTakes$Tokens", 50, ";()+-*/<=", 1), ("CloudTakes$Parser", 78, "sun cloud wide near inside day move cold rule ", 2), ("CloudTakes$Parser", 56, "the text has a fault", 3), ("CloudTakes$Parser", 143, "after", 4), ("CloudTakes$Parser", 194, "not", 5), ("CloudTakes$Parser", 208, "length kind light left until hour waited tries ", 6), ("CloudTakes$Parser", 192, "and", 7), ("CloudTakes$Parser", 184, "or", 8), ("CloudTakes", 165, "no such what", 9), ("CloudTakes", 385, "no such shot", 10), ("CloudTakes", 387, "no such minute of the day", 11), ("CloudTakes", 389, "no such rule", 12), ("CloudTakes", 297, "the order is not so long", 13), ("CloudTakes", 305, "bits of shots that there are not, or that are had", 14), ("CloudTakes", 337, "minutes are 0 to 480", 15), ("CloudTakes", 348, "minutes are 1 to 480", 16), ("CloudTakes", 391, "tenths are 0 to 10, minutes 1 to 9", 17), ("CloudTakes", 364, "worth is 0 to 999, film 0 to 99", 18), ("CloudTakes", 373, "days are 0 to 10", 19), ("CloudTakesModel", 11, "wide", 20), ("CloudTakesModel", 13, "near", 21), ("CloudTakesModel", 15, "inside", 22), ("CloudTakesModel", 21, "length", 23), ("CloudTakesModel", 23, "kind", 24), ("CloudTakesModel", 25, "light", 25), ("CloudTakesModel", 27, "left", 26), ("CloudTakesModel", 29, "until", 27), ("CloudTakesModel", 31, "hour", 28), ("CloudTakesModel", 33, "waited", 29), ("CloudTakesModel", 35, "tries", 30), ("CloudTakesModel", 260, "day", 31), ("CloudTakesModel", 262, "move", 32), ("CloudTakesModel", 264, "cold", 33), ("CloudTakesModel", 259, "after", 4), ("CloudTakesModel", 269, "sun", 34), ("CloudTakesModel", 274, "cloud", 35), ("CloudTakesModel", 276, "rule", 36), ("CloudTakesModel", 240, "not", 5), ("CloudTakesModel", 248, "and", 7), ("CloudTakesModel", 253, "or", 8)]
def mm_sl : List Nat := [30, 9, 46, 20, 5, 3, 47, 3, 2, 12, 12, 25, 12, 24, 49, 20, 20, 34, 31, 16, 4, 4, 6, 6, 4, 5, 4, 5, 4, 6, 5, 3, 4, 4, 3, 5, 4]
def mm_sb : List (List Int32) := [[116, 104, 101, 32, 116, 97, 112, 101, 32, 104, 97, 115, 32, 110, 111, 116, 32, 115, 111, 32, 109, 97, 110, 121, 32, 98, 121, 116, 101, 115], [59, 40, 41, 43, 45, 42, 47, 60, 61], [115, 117, 110, 32, 99, 108, 111, 117, 100, 32, 119, 105, 100, 101, 32, 110, 101, 97, 114, 32, 105, 110, 115, 105, 100, 101, 32, 100, 97, 121, 32, 109, 111, 118, 101, 32, 99, 111, 108, 100, 32, 114, 117, 108, 101, 32], [116, 104, 101, 32, 116, 101, 120, 116, 32, 104, 97, 115, 32, 97, 32, 102, 97, 117, 108, 116], [97, 102, 116, 101, 114], [110, 111, 116], [108, 101, 110, 103, 116, 104, 32, 107, 105, 110, 100, 32, 108, 105, 103, 104, 116, 32, 108, 101, 102, 116, 32, 117, 110, 116, 105, 108, 32, 104, 111, 117, 114, 32, 119, 97, 105, 116, 101, 100, 32, 116, 114, 105, 101, 115, 32], [97, 110, 100], [111, 114], [110, 111, 32, 115, 117, 99, 104, 32, 119, 104, 97, 116], [110, 111, 32, 115, 117, 99, 104, 32, 115, 104, 111, 116], [110, 111, 32, 115, 117, 99, 104, 32, 109, 105, 110, 117, 116, 101, 32, 111, 102, 32, 116, 104, 101, 32, 100, 97, 121], [110, 111, 32, 115, 117, 99, 104, 32, 114, 117, 108, 101], [116, 104, 101, 32, 111, 114, 100, 101, 114, 32, 105, 115, 32, 110, 111, 116, 32, 115, 111, 32, 108, 111, 110, 103], [98, 105, 116, 115, 32, 111, 102, 32, 115, 104, 111, 116, 115, 32, 116, 104, 97, 116, 32, 116, 104, 101, 114, 101, 32, 97, 114, 101, 32, 110, 111, 116, 44, 32, 111, 114, 32, 116, 104, 97, 116, 32, 97, 114, 101, 32, 104, 97, 100], [109, 105, 110, 117, 116, 101, 115, 32, 97, 114, 101, 32, 48, 32, 116, 111, 32, 52, 56, 48], [109, 105, 110, 117, 116, 101, 115, 32, 97, 114, 101, 32, 49, 32, 116, 111, 32, 52, 56, 48], [116, 101, 110, 116, 104, 115, 32, 97, 114, 101, 32, 48, 32, 116, 111, 32, 49, 48, 44, 32, 109, 105, 110, 117, 116, 101, 115, 32, 49, 32, 116, 111, 32, 57], [119, 111, 114, 116, 104, 32, 105, 115, 32, 48, 32, 116, 111, 32, 57, 57, 57, 44, 32, 102, 105, 108, 109, 32, 48, 32, 116, 111, 32, 57, 57], [100, 97, 121, 115, 32, 97, 114, 101, 32, 48, 32, 116, 111, 32, 49, 48], [119, 105, 100, 101], [110, 101, 97, 114], [105, 110, 115, 105, 100, 101], [108, 101, 110, 103, 116, 104], [107, 105, 110, 100], [108, 105, 103, 104, 116], [108, 101, 102, 116], [117, 110, 116, 105, 108], [104, 111, 117, 114], [119, 97, 105, 116, 101, 100], [116, 114, 105, 101, 115], [100, 97, 121], [109, 111, 118, 101], [99, 111, 108, 100], [115, 117, 110], [99, 108, 111, 117, 100], [114, 117, 108, 101]]

def mm_nl : List (String × Nat × MethodName × String) := [("CloudTakes$Plan", 38, ⟨"CloudTakes$Sky", "<init>", "()V"⟩, "CloudTakes"), ("CloudTakes$Plan", 45, ⟨"CloudTakes$Rules", "<init>", "()V"⟩, "CloudTakes"), ("CloudTakes$Plan", 50, ⟨"CloudTakes$Shot", "<init>", "()V"⟩, "CloudTakes"), ("CloudTakes$Parser", 20, ⟨"CloudTakes$Tokens", "<init>", "()V"⟩, "CloudTakes"), ("CloudTakes$Scene", 11, ⟨"CloudTakes$State", "<init>", "()V"⟩, "CloudTakes"), ("CloudTakes$State", 40, ⟨"CloudTakes$Sky", "<init>", "()V"⟩, "CloudTakes"), ("CloudTakes", 55, ⟨"CloudTakes$State", "<init>", "()V"⟩, "CloudTakes"), ("CloudTakes$DayRun", 41, ⟨"CloudTakes$State", "<init>", "()V"⟩, "CloudTakes")]
def mm_ca : List (String × String) := [("java/lang/IllegalArgumentException", "java/lang/IllegalArgumentException"), ("java/util/NoSuchElementException", "java/util/NoSuchElementException"), ("CloudTakes", "java/lang/Object"), ("CloudTakes$Plan", "java/lang/Object"), ("CloudTakes$Sky", "java/lang/Object"), ("CloudTakes$Rules", "java/lang/Object"), ("CloudTakes$Shot", "java/lang/Object"), ("CloudTakes$Parser", "java/lang/Object"), ("CloudTakes$Tokens", "java/lang/Object"), ("CloudTakes$Scene", "java/lang/Object"), ("CloudTakes$State", "java/lang/Object"), ("CloudTakes$Outlook", "java/lang/Object"), ("CloudTakes$DayRun", "java/lang/Object"), ("CloudTakes$Search", "java/lang/Object"), ("CloudTakesModel", "java/lang/Object"), ("java/lang/IllegalArgumentException", "java/lang/Object"), ("java/util/NoSuchElementException", "java/lang/Object"), ("java/lang/Throwable", "java/lang/Object"), ("java/lang/String", "java/lang/Object")]
def mm_de : List MethodName := [⟨"java/lang/RuntimeException", "<init>", "()V"⟩, ⟨"java/lang/RuntimeException", "<init>", "(Ljava/lang/String;)V"⟩, ⟨"java/lang/Exception", "<init>", "()V"⟩, ⟨"java/lang/Exception", "<init>", "(Ljava/lang/String;)V"⟩, ⟨"java/lang/Throwable", "<init>", "()V"⟩, ⟨"java/lang/Throwable", "<init>", "(Ljava/lang/String;)V"⟩]
def mm_nc : List (String × String) := [("CloudTakes", "java/lang/IllegalArgumentException"), ("CloudTakes$Plan", "java/lang/IllegalArgumentException"), ("CloudTakes$Sky", "java/lang/IllegalArgumentException"), ("CloudTakes$Rules", "java/lang/IllegalArgumentException"), ("CloudTakes$Shot", "java/lang/IllegalArgumentException"), ("CloudTakes$Parser", "java/lang/IllegalArgumentException"), ("CloudTakes$Tokens", "java/lang/IllegalArgumentException"), ("CloudTakes$Scene", "java/lang/IllegalArgumentException"), ("CloudTakes$State", "java/lang/IllegalArgumentException"), ("CloudTakes$Outlook", "java/lang/IllegalArgumentException"), ("CloudTakes$DayRun", "java/lang/IllegalArgumentException"), ("CloudTakes$Search", "java/lang/IllegalArgumentException"), ("CloudTakesModel", "java/lang/IllegalArgumentException"), ("java/util/NoSuchElementException", "java/lang/IllegalArgumentException"), ("CloudTakes", "java/util/NoSuchElementException"), ("CloudTakes$Plan", "java/util/NoSuchElementException"), ("CloudTakes$Sky", "java/util/NoSuchElementException"), ("CloudTakes$Rules", "java/util/NoSuchElementException"), ("CloudTakes$Shot", "java/util/NoSuchElementException"), ("CloudTakes$Parser", "java/util/NoSuchElementException"), ("CloudTakes$Tokens", "java/util/NoSuchElementException"), ("CloudTakes$Scene", "java/util/NoSuchElementException"), ("CloudTakes$State", "java/util/NoSuchElementException"), ("CloudTakes$Outlook", "java/util/NoSuchElementException"), ("CloudTakes$DayRun", "java/util/NoSuchElementException"), ("CloudTakes$Search", "java/util/NoSuchElementException"), ("CloudTakesModel", "java/util/NoSuchElementException"), ("java/lang/IllegalArgumentException", "java/util/NoSuchElementException"), ("CloudTakes", "CloudTakes$Shot"), ("CloudTakes$Plan", "CloudTakes$Shot"), ("CloudTakes$Sky", "CloudTakes$Shot"), ("CloudTakes$Rules", "CloudTakes$Shot"), ("CloudTakes$Parser", "CloudTakes$Shot"), ("CloudTakes$Tokens", "CloudTakes$Shot"), ("CloudTakes$Scene", "CloudTakes$Shot"), ("CloudTakes$State", "CloudTakes$Shot"), ("CloudTakes$Outlook", "CloudTakes$Shot"), ("CloudTakes$DayRun", "CloudTakes$Shot"), ("CloudTakes$Search", "CloudTakes$Shot"), ("CloudTakesModel", "CloudTakes$Shot"), ("java/lang/IllegalArgumentException", "CloudTakes$Shot"), ("java/util/NoSuchElementException", "CloudTakes$Shot"), ("java/lang/Throwable", "CloudTakes$Shot"), ("java/lang/String", "CloudTakes$Shot"), ("CloudTakes", "CloudTakes$State"), ("CloudTakes$Plan", "CloudTakes$State"), ("CloudTakes$Sky", "CloudTakes$State"), ("CloudTakes$Rules", "CloudTakes$State"), ("CloudTakes$Shot", "CloudTakes$State"), ("CloudTakes$Parser", "CloudTakes$State"), ("CloudTakes$Tokens", "CloudTakes$State"), ("CloudTakes$Scene", "CloudTakes$State"), ("CloudTakes$Outlook", "CloudTakes$State"), ("CloudTakes$DayRun", "CloudTakes$State"), ("CloudTakes$Search", "CloudTakes$State"), ("CloudTakesModel", "CloudTakes$State"), ("java/lang/IllegalArgumentException", "CloudTakes$State"), ("java/util/NoSuchElementException", "CloudTakes$State"), ("java/lang/Throwable", "CloudTakes$State"), ("java/lang/String", "CloudTakes$State")]
/-- an array of arrays of t: its class -/
def mm_AOA (t : FieldType) (U : State) : Prop := (Cond.arrayOver (.array t)).before #[] U = true
theorem mm_AOA.moved {t : FieldType} {u U : State} (hvm : u.vm.Alike U.vm) (h : mm_AOA t u) : mm_AOA t U := by
  obtain ⟨comp, c, k, h1, h2, h3, h4, h5⟩ := arrayOverA_spec h
  obtain ⟨k', hk', he⟩ := hvm.2.2 _ _ h3
  have hi : (U.vm.classes.findIdx? fun (x : Class) => match x.kind with | .array component _ => component == comp | _ => false) = some c := by
    have e1 := va_idx_bare U.vm comp
    have e2 := va_idx_bare u.vm comp
    have e3 : U.vm.bare = u.vm.bare := by first | exact hvm.bare_eq | exact hvm.bare_eq.symm
    rw [e3] at e1
    exact (e1.symm.trans e2).trans h2
  have hkind : k'.kind = .array comp (.array t) := by rw [he]; exact h4
  have f1 : U.vm.findClass (FieldType.array t).toString = some comp := by rw [hvm.findClass]; exact h1
  have f2 : U.vm.findClass ("[" ++ (FieldType.array t).toString) = some c := by rw [hvm.findClass]; exact h5
  unfold mm_AOA Cond.before Cond.holds
  simp only [Cond.value]
  rw [f1, Option.bind_some]
  refine (congrArg (fun o : Option Nat => (o.bind (fun c => (U.vm.classes[c]?).map fun (k : Class) => match k.kind with | .array _ ty => decide (ty = FieldType.array t) && decide (U.vm.findClass ("[" ++ (FieldType.array t).toString) = some c) | _ => false) == some true)) hi).trans ?_
  simp [hk', hkind, f2]
/-- the words that aren't handed from method to method with the tables -/
def mm_N (U : State) : Prop :=
  (∀ r ∈ mm_nl, va_Nw (.methodLinkNest r.1 r.2.1 r.2.2.1 r.2.2.2) U) ∧ (∀ r ∈ mm_ca, va_Nw (.castable r.1 r.2) U) ∧ (∀ x ∈ mm_de, va_Nw (.declares x) U) ∧ (∀ r ∈ mm_nc, va_Nc r.1 r.2 U) ∧
  va_AO "CloudTakes$Shot" U ∧ va_AO "CloudTakes$State" U ∧ va_AO "java/lang/String" U ∧ mm_AOA .int U
theorem mm_N.warm {s U : State} (hW : s.WarmedH U.vm) (h : mm_N s) : mm_N U :=
  ⟨fun r hr => va_Nw.warmM hW (h.1 r hr), fun r hr => va_Nw.warmC hW (h.2.1 r hr), fun r hr => va_Nw.warmD hW (h.2.2.1 r hr), fun r hr => va_Nc.moved hW.alike (h.2.2.2.1 r hr), va_AO.moved hW.alike h.2.2.2.2.1, va_AO.moved hW.alike h.2.2.2.2.2.1, va_AO.moved hW.alike h.2.2.2.2.2.2.1, mm_AOA.moved hW.alike h.2.2.2.2.2.2.2⟩
theorem mm_N.same {s U : State} (hv : U.vm = s.vm) (h : mm_N s) : mm_N U := by
  have ha : s.vm.Alike U.vm := by rw [hv]; exact Vm.Alike.refl _
  exact ⟨fun r hr => va_Nw.same rfl hv.symm (h.1 r hr), fun r hr => va_Nw.same rfl hv.symm (h.2.1 r hr), fun r hr => va_Nw.same rfl hv.symm (h.2.2.1 r hr), fun r hr => va_Nc.moved ha (h.2.2.2.1 r hr), va_AO.moved ha h.2.2.2.2.1, va_AO.moved ha h.2.2.2.2.2.1, va_AO.moved ha h.2.2.2.2.2.2.1, mm_AOA.moved ha h.2.2.2.2.2.2.2⟩
/-- what the JDK's formatter of messages is: null, or some object -/
def mm_fmt (Z : mm_Z) : Value := if Z.2.2.2.1 2000001 = 0 then .null else .ref 3000000
def mm_K (Z : mm_Z) (U : State) : Prop :=
  va_K Z.2.1 mm_cl (mm_tys Z) U ∧ Z.1.stackTraces = false ∧ vk_S 37 mm_sl mm_sb Z.2.2.2.1 (fun i => Z.2.2.2.1 (1000000 + i)) (fun q => mm_B Z ≤ q) U Z.2.2.1 ∧ (∀ r ∈ mm_sr, vk_R r.1 r.2.1 r.2.2.1 (Z.2.2.2.1 r.2.2.2) U) ∧
  vx_Zq Bundle.tN "UNASSIGNED_STACK" Bundle.steD (fun q => mm_B Z ≤ q) U Z.2.2.1 ∧ vx_Zq Bundle.tN "SUPPRESSED_SENTINEL" Bundle.listD (fun q => mm_B Z ≤ q) U Z.2.2.1 ∧
  va_Z "java/lang/String" "COMPACT_STRINGS" "Z" (.int 1) (fun q => mm_B Z ≤ q) U Z.2.2.1 ∧ va_Z "jdk/internal/util/Preconditions" "SIOOBE_FORMATTER" "Ljava/util/function/BiFunction;" (mm_tr Z (mm_fmt Z)) (fun q => mm_B Z ≤ q) U Z.2.2.1 ∧ mm_N U
theorem mm_K.warm {Z : mm_Z} {s U : State} (hW : s.WarmedH U.vm) (h : mm_K Z s) : mm_K Z U := by
  obtain ⟨h1, h2, h3, h4, h5, h6, h7, h8, h9⟩ := h
  exact ⟨va_K.moved hW.alike h1, h2, vk_S.moved hW.alike h3, fun r hr => vk_R.warm hW (h4 r hr), vx_Zq.moved hW.alike h5, vx_Zq.moved hW.alike h6, va_Z.moved hW.alike h7, va_Z.moved hW.alike h8, h9.warm hW⟩
theorem mm_K.same {Z : mm_Z} {s U : State} (hv : U.vm = s.vm) (h : mm_K Z s) : mm_K Z U := by
  have ha : s.vm.Alike U.vm := by rw [hv]; exact Vm.Alike.refl _
  obtain ⟨h1, h2, h3, h4, h5, h6, h7, h8, h9⟩ := h
  exact ⟨va_K.moved ha h1, h2, vk_S.moved ha h3, fun r hr => vk_R.same hv (h4 r hr), vx_Zq.moved ha h5, vx_Zq.moved ha h6, va_Z.moved ha h7, va_Z.moved ha h8, h9.same hv⟩
/-- the exceptions that are thrown -/
def mm_ex : List String := ["java/lang/IllegalArgumentException", "java/util/NoSuchElementException"]
def mm_Qc (Z : mm_Z) (Q : mm_O → mm_H → Prop) : Array Value → State → Outcome → State → Prop := fun _ _ o t => ∃ (v : Option Value) (h : mm_H), o = .returned (v.map (mm_tr Z)) ∧ Q (.inl v) h ∧ mm_Rel Z h t.heap
def mm_XC (Z : mm_Z) (Q : mm_O → mm_H → Prop) : String → State → State → Prop := fun E _ t => ∃ (ci : Nat) (h : mm_H), mm_ex[ci]? = some E ∧ Q (.inr ci) h ∧ mm_Rel Z h t.heap
def mm_Pc (Z : mm_Z) (as : List Value) (h : mm_H) : Array Value → State → Prop := fun a U => a = (as.map (mm_tr Z)).toArray ∧ mm_Rel Z h U.heap ∧ mm_K Z U
theorem mm_blind (Z : mm_Z) (as : List Value) (h : mm_H) : FrameBlind (mm_Pc Z as h) := fun a U g mk q => ⟨q.1, q.2.1, mm_K.same (U := U.calling g mk a) rfl q.2.2⟩
/-- the words of a method: its code, and the tables' -/
def mm_w (M : mm_M) : List Cond := (match M.2.2.2.2.1 with
  | [] => Cond.code M.1 M.2.1 M.2.2.1 M.2.2.2.1
  | hh => Cond.codeWith M.1 M.2.1 M.2.2.1 M.2.2.2.1 hh) :: mm_tbl
abbrev mm_rm (d mc ms : Nat) : Room := { frames := d, cells := mc, slots := ms, locals := 40 * d }
/-- A CONTRACT: called with the values as in the small heap h, at most d frames deep, making at most mc cells of ms slots, the method ends, and Q holds of how it ends and of the heap behind it -/
def mC (Z : mm_Z) (M : mm_M) (d mc ms : Nat) (as : List Value) (h : mm_H) (Q : mm_O → mm_H → Prop) : Prop :=
  vx_Met Z.1 M.1 (mm_w M) (mm_rm d mc ms) (mm_Pc Z as h) (mm_Qc Z Q) (mm_XC Z Q) mc ms (fun q => mm_B Z ≤ q)
/-- an invocation under way -/
abbrev mm_T : Type := Program × Env × Room × State × MethodId × Array Value × List Frame × Method × Code
abbrev mt_p (X : mm_T) : Program := X.1
abbrev mt_e (X : mm_T) : Env := X.2.1
abbrev mt_R (X : mm_T) : Room := X.2.2.1
abbrev mt_s (X : mm_T) : State := X.2.2.2.1
abbrev mt_m (X : mm_T) : MethodId := X.2.2.2.2.1
abbrev mt_a (X : mm_T) : Array Value := X.2.2.2.2.2.1
abbrev mt_b (X : mm_T) : List Frame := X.2.2.2.2.2.2.1
abbrev mt_h (X : mm_T) : Method := X.2.2.2.2.2.2.2.1
abbrev mt_c (X : mm_T) : Code := X.2.2.2.2.2.2.2.2
/-- what holds all along a body -/
def mm_Ok (Z : mm_Z) (M : mm_M) (X : mm_T) : Prop :=
  (mt_p X).tables.exec = Jvm.exec ∧ (mt_c X).code = M.2.1 ∧ (mt_c X).maxLocals = M.2.2.1 ∧ (mt_h X).sig.returnType = M.2.2.2.1 ∧
  (mt_c X).exceptionTable.toList.map (fun h => (h.startPc, h.endPc, h.handlerPc, h.catchType)) = M.2.2.2.2.1 ∧
  (mt_s X).vm.findClass M.1.cls = some (mt_m X).cls ∧ (mt_h X).name = M.1.name ∧ (mt_h X).locks = false ∧ (∀ w ∈ mm_tbl, w.before (mt_a X) (mt_s X) = true) ∧ mm_K Z (mt_s X) ∧
  (∀ q : Nat, q < mm_B Z → (mt_s X).heap[q]? = Z.2.2.1[q]?) ∧ mm_B Z ≤ (mt_s X).heap.size ∧ mm_good M
/-- THE JUDGEMENT: from the frame f (k cells, w slots made so far) the body comes to its end, and Q holds of it -/
def mG (Z : mm_Z) (M : mm_M) (X : mm_T) (k w mc ms : Nat) (Q : mm_O → mm_H → Prop) (f : mm_F) : Prop :=
  ∀ (H : Heap) (locs : List Loc) (ls : Array Slot), mm_Rel Z f.2.2.2 H → va_S (fun q => mm_B Z ≤ q) (mt_s X).heap H locs → lv_has ls M.2.2.1 (f.2.1.map fun q => (q.1, mm_tr Z q.2)) →
    W (mt_p X) Z.1 (mt_e X) (mt_R X) (mt_s X) (mt_m X) (mt_a X) (mt_b X) (mt_h X) (mt_c X) H locs k w (vx_MQ (mt_b X) (mm_Qc Z Q) (mm_XC Z Q) (mt_a X) (mt_s X) mc ms (fun q => mm_B Z ≤ q)) (F0 (mt_m X) f.1 ls (f.2.2.1.map (mm_tr Z)))
theorem mm_args (Z : mm_Z) : ∀ (as : List Value) (i : Nat), lv_args i (as.map (mm_tr Z)) = (lv_args i as).map fun q => (q.1, mm_tr Z q.2)
  | [], _ => rfl
  | v :: vs, i => by
    show (i, mm_tr Z v) :: lv_args (if (mm_tr Z v).category = 2 then i + 2 else i + 1) (vs.map (mm_tr Z)) = (i, mm_tr Z v) :: ((lv_args (if v.category = 2 then i + 2 else i + 1) vs).map fun q => (q.1, mm_tr Z q.2))
    rw [mm_tr_cat, mm_args Z vs]
theorem mm_sl_len (Z : mm_Z) : ∀ as : List Value, (lg_sl (as.map (mm_tr Z))).length = (lg_sl as).length
  | [] => rfl
  | v :: vs => by
    have ih := mm_sl_len Z vs
    cases v <;> simp_all [lg_sl, mm_tr, Value.category]
/-- a contract out of a body's walk -/
theorem mC_of {Z : mm_Z} {M : mm_M} {d mc ms : Nat} {as : List Value} {h : mm_H} {Q : mm_O → mm_H → Prop} (hg : mm_good M) (hp : plainFor M.1 = true) (hn : (lg_sl as).length ≤ M.2.2.1)
    (body : ∀ X : mm_T, mm_Ok Z M X → mt_R X = mm_rm d mc ms → mG Z M X 0 0 mc ms Q (0, lv_args 0 as, [], h)) : mC Z M d mc ms as h Q := by
  have key : ∀ p e s m args below meth c s₁, BodyLoose p Z.1 M.1 (headSpec (mm_w M) (mm_rm d mc ms)) M.2.1 M.2.2.1 M.2.2.2.1 e s m args below meth c s₁ → c.maxLocals = M.2.2.1 → c.exceptionTable.toList.map (fun h => (h.startPc, h.endPc, h.handlerPc, h.catchType)) = M.2.2.2.2.1 → mm_Pc Z as h args s →
      W p Z.1 e (headSpec (mm_w M) (mm_rm d mc ms)).room s m args below meth c s.heap [] 0 0 (vx_MQ below (mm_Qc Z Q) (mm_XC Z Q) args s mc ms (fun q => mm_B Z ≤ q)) (entryFrame m args M.2.2.1) := by
    intro p e s m args below meth c s₁ B hml hex hv
    obtain ⟨rfl, hR, hK⟩ := hv
    have hts := atoms_spec (ws := mm_w M) B.pre
    have hl := lv_entry (as.map (mm_tr Z)) (n := M.2.2.1) (by rw [mm_sl_len]; exact hn)
    rw [mm_args] at hl
    rw [lg_entry_eq]
    refine body (p, e, mm_rm d mc ms, s, m, _, below, meth, c) ⟨B.exec, B.bytes, hml, B.returns, hex, findClass_of_methodNamed B.named, (name_of_methodNamed B.named B.method).1, B.notSynchronized, fun w hw => hts w (List.mem_cons_of_mem _ hw), hK, hR.2.2.1, by rw [hR.1]; exact Nat.le_add_right _ _, hg⟩ rfl s.heap [] _ hR va_S.rf hl
  unfold mC vx_Met
  refine MetFree.of_bodySF (code := M.2.1) (maxLocals := M.2.2.1) (ret := M.2.2.2.1) hp ?_ ?_
  · intro args s m hpre hname
    have hts := atoms_spec (ws := mm_w M) hpre
    by_cases hh : M.2.2.2.2.1 = []
    · have hw : mm_w M = Cond.code M.1 M.2.1 M.2.2.1 M.2.2.2.1 :: mm_tbl := by unfold mm_w; rw [hh]
      obtain ⟨meth, c, h1, h2, h3, h4, h5, h6, -, -⟩ := Cond.code_spec hname (hts _ (by rw [hw]; exact List.mem_cons_self))
      exact ⟨meth, c, h1, h2, h3, h4, h5, h6⟩
    · have hw : mm_w M = Cond.codeWith M.1 M.2.1 M.2.2.1 M.2.2.2.1 M.2.2.2.2.1 :: mm_tbl := by
        unfold mm_w
        cases h9 : M.2.2.2.2.1 with
        | nil => exact absurd h9 hh
        | cons a t => rfl
      obtain ⟨m9, meth, c, hn9, h1, h2, h3, h4, -, h5, h6, -⟩ := Cond.codeWith_spec (hts _ (by rw [hw]; exact List.mem_cons_self))
      cases hname.symm.trans hn9
      exact ⟨meth, c, h1, h2, h3, h4, h5, h6⟩
  · intro p e s m args below meth c s₁ B hml hP _
    have hts := atoms_spec (ws := mm_w M) B.pre
    have hex : c.exceptionTable.toList.map (fun h => (h.startPc, h.endPc, h.handlerPc, h.catchType)) = M.2.2.2.2.1 := by
      by_cases hh : M.2.2.2.2.1 = []
      · have hw : mm_w M = Cond.code M.1 M.2.1 M.2.2.1 M.2.2.2.1 :: mm_tbl := by unfold mm_w; rw [hh]
        have h0 := B.noHandlers (hts _ (by rw [hw]; exact List.mem_cons_self))
        have h1 : c.exceptionTable.size = 0 := by simpa [Array.isEmpty] using h0
        rw [hh, List.eq_nil_of_length_eq_zero (l := c.exceptionTable.toList) (by simpa using h1)]
        rfl
      · have hw : mm_w M = Cond.codeWith M.1 M.2.1 M.2.2.1 M.2.2.2.1 M.2.2.2.2.1 :: mm_tbl := by
          unfold mm_w
          cases h9 : M.2.2.2.2.1 with
          | nil => exact absurd h9 hh
          | cons a t => rfl
        obtain ⟨m9, meth9, c9, q1, q2, q3, -, -, q4, -⟩ := Cond.codeWith_spec (hts _ (by rw [hw]; exact List.mem_cons_self))
        cases B.named.symm.trans q1
        cases B.method.symm.trans q2
        cases (Stand.of_body B).code.symm.trans q3
        exact q4
    have hh0 : s₁.heap = s.heap := by rw [B.state]; rfl
    obtain ⟨t, a1, o, b1, b2, b3⟩ := key p e s m args below meth c s₁ B hml hex hP s₁ hh0 (Stand.of_body B)
    exact ⟨t, o, a1, b1, b2, b3⟩
