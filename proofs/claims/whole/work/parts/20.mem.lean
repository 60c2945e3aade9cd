/- needs: 15.acall 15.fun -/
/-! THE MEMORY: each cell has its kind for good; s says what the cells hold: numbers, references that change, the law's own row -/
abbrev sg : Type := (Nat → Nat → Int32) × (Nat → Nat → Nat) × (Nat → Int64)
def layC : List (Nat × Nat) := [(11, 0), (21, 700), (3, 0), (24, 8), (8, 0), (20, 15), (4, 0), (20, 700), (20, 4), (20, 40), (7, 0), (7, 0), (7, 0), (7, 0), (7, 0), (7, 0), (7, 0), (7, 0), (3, 0), (24, 8), (8, 0), (20, 15), (4, 0), (20, 700), (20, 4), (20, 40), (7, 0), (7, 0), (7, 0), (7, 0), (7, 0), (7, 0), (7, 0), (7, 0), (2, 0), (10, 0), (21, 700), (5, 0), (9, 0), (20, 8), (8, 0), (20, 15), (25, 40), (20, 8), (20, 8), (22, 8), (20, 3), (9, 0), (20, 8), (8, 0), (20, 15), (9, 0), (20, 8), (8, 0), (20, 15), (9, 0), (20, 8), (8, 0), (20, 15), (9, 0), (20, 8), (8, 0), (20, 15), (9, 0), (20, 8), (8, 0), (20, 15), (9, 0), (20, 8), (8, 0), (20, 15), (9, 0), (20, 8), (8, 0), (20, 15), (9, 0), (20, 8), (8, 0), (20, 15), (9, 0), (20, 8), (8, 0), (20, 15), (9, 0), (20, 8), (8, 0), (20, 15), (9, 0), (20, 8), (8, 0), (20, 15), (9, 0), (20, 8), (8, 0), (20, 15), (9, 0), (20, 8), (8, 0), (20, 15), (9, 0), (20, 8), (8, 0), (20, 15), (9, 0), (20, 8), (8, 0), (20, 15), (9, 0), (20, 8), (8, 0), (20, 15), (9, 0), (20, 8), (8, 0), (20, 15), (9, 0), (20, 8), (8, 0), (20, 15), (9, 0), (20, 8), (8, 0), (20, 15), (9, 0), (20, 8), (8, 0), (20, 15), (9, 0), (20, 8), (8, 0), (20, 15), (9, 0), (20, 8), (8, 0), (20, 15), (9, 0), (20, 8), (8, 0), (20, 15), (9, 0), (20, 8), (8, 0), (20, 15), (9, 0), (20, 8), (8, 0), (20, 15), (9, 0), (20, 8), (8, 0), (20, 15), (9, 0), (20, 8), (8, 0), (20, 15), (9, 0), (20, 8), (8, 0), (20, 15), (9, 0), (20, 8), (8, 0), (20, 15), (9, 0), (20, 8), (8, 0), (20, 15), (9, 0), (20, 8), (8, 0), (20, 15), (9, 0), (20, 8), (8, 0), (20, 15), (9, 0), (20, 8), (8, 0), (20, 15), (9, 0), (20, 8), (8, 0), (20, 15), (9, 0), (20, 8), (8, 0), (20, 15), (9, 0), (20, 8), (8, 0), (20, 15), (9, 0), (20, 8), (8, 0), (20, 15), (9, 0), (20, 8), (8, 0), (20, 15), (9, 0), (20, 8), (8, 0), (20, 15), (9, 0), (20, 8), (8, 0), (20, 15), (5, 0), (9, 0), (20, 8), (8, 0), (20, 15), (25, 40), (20, 8), (20, 8), (22, 8), (20, 3), (9, 0), (20, 8), (8, 0), (20, 15), (9, 0), (20, 8), (8, 0), (20, 15), (9, 0), (20, 8), (8, 0), (20, 15), (9, 0), (20, 8), (8, 0), (20, 15), (9, 0), (20, 8), (8, 0), (20, 15), (9, 0), (20, 8), (8, 0), (20, 15), (9, 0), (20, 8), (8, 0), (20, 15), (9, 0), (20, 8), (8, 0), (20, 15), (9, 0), (20, 8), (8, 0), (20, 15), (9, 0), (20, 8), (8, 0), (20, 15), (9, 0), (20, 8), (8, 0), (20, 15), (9, 0), (20, 8), (8, 0), (20, 15), (9, 0), (20, 8), (8, 0), (20, 15), (9, 0), (20, 8), (8, 0), (20, 15), (9, 0), (20, 8), (8, 0), (20, 15), (9, 0), (20, 8), (8, 0), (20, 15), (9, 0), (20, 8), (8, 0), (20, 15), (9, 0), (20, 8), (8, 0), (20, 15), (9, 0), (20, 8), (8, 0), (20, 15), (9, 0), (20, 8), (8, 0), (20, 15), (9, 0), (20, 8), (8, 0), (20, 15), (9, 0), (20, 8), (8, 0), (20, 15), (9, 0), (20, 8), (8, 0), (20, 15), (9, 0), (20, 8), (8, 0), (20, 15), (9, 0), (20, 8), (8, 0), (20, 15), (9, 0), (20, 8), (8, 0), (20, 15), (9, 0), (20, 8), (8, 0), (20, 15), (9, 0), (20, 8), (8, 0), (20, 15), (9, 0), (20, 8), (8, 0), (20, 15), (9, 0), (20, 8), (8, 0), (20, 15), (9, 0), (20, 8), (8, 0), (20, 15), (9, 0), (20, 8), (8, 0), (20, 15), (9, 0), (20, 8), (8, 0), (20, 15), (9, 0), (20, 8), (8, 0), (20, 15), (9, 0), (20, 8), (8, 0), (20, 15), (9, 0), (20, 8), (8, 0), (20, 15), (9, 0), (20, 8), (8, 0), (20, 15), (9, 0), (20, 8), (8, 0), (20, 15), (9, 0), (20, 8), (8, 0), (20, 15), (9, 0), (20, 8), (8, 0), (20, 15), (9, 0), (20, 8), (8, 0), (20, 15), (1, 0), (20, 481), (20, 480), (0, 0), (20, 8), (20, 8), (9, 0), (20, 8), (8, 0), (20, 15), (1, 0), (20, 481), (20, 480), (6, 0), (20, 8), (27, 8), (20, 481), (20, 481), (20, 481), (20, 481), (20, 481), (20, 481), (20, 481), (20, 481), (27, 8), (20, 481), (20, 481), (20, 481), (20, 481), (20, 481), (20, 481), (20, 481), (20, 481), (20, 512), (20, 512), (1, 0), (20, 481), (20, 480)]
def layM : List (Nat × Nat) := [(12, 0), (26, 3), (26, 8), (20, 16), (20, 16), (20, 16), (20, 16), (20, 16), (20, 16), (20, 16), (20, 960), (20, 8), (20, 8), (20, 1400), (20, 3), (20, 700), (20, 15), (20, 1240), (20, 8), (20, 64), (20, 15), (20, 8), (20, 512), (20, 8), (20, 8), (20, 8), (20, 8), (20, 31), (20, 31), (20, 1240), (20, 8), (20, 8), (20, 8), (20, 3), (23, 1)]
def kd (a : Nat) : Nat × Nat := if a < 419 then layC.getD a (99, 0) else layM.getD (a - 419) (99, 0)
def ftab : List (List Bool) := [[true, true, true, true, true, true, false, false, false, false, false, true, true], [false, false, false, false, true], [true, true, false, false, true, true, true], [true, true, true, true, true, true, false, false, false], [true, false, true, false, false, true], [false, false, true, false, false, false, true, false], [true, true, true, true, false, false, false, false, true, false, false, false, false], [true, true, true, true, true, true], [false], [true, true, true, true, true, true, true, false, false], [true, true, false, true, true], [false, true, true, false, false, false, false, false, true, false, false, false, false], [false, false, true, false, false, false, false, false, false, false, false, false, false, false, false, false, true, true, true, true, true, true, true, true, true, true, false, false, true, true, true, false, false, false, false, true, true, true, true, true, true, false, true, true, false, true, true, false, false, false, true, false, true, true, true, false, false, false, false, false, false]]
def fI (ci j : Nat) : Bool := (ftab.getD ci [])[j]? == some true
def fR (ci j : Nat) : Bool := (ftab.getD ci [])[j]? == some false
/-- references that never change -/
def imK : Nat → Nat → Nat → Option Nat
  | 0, a, 6 => some (a + 1)
  | 0, a, 7 => some (a + 2)
  | 0, a, 8 => some (a + 3)
  | 0, a, 9 => some (a + 7)
  | 1, a, 0 => some (a + 1)
  | 1, a, 1 => some (a + 2)
  | 2, a, 2 => some (a + 1)
  | 3, a, 6 => some (a + 1)
  | 3, a, 7 => some (a + 2)
  | 3, a, 8 => some (a + 4)
  | 4, a, 1 => some (a + 1)
  | 4, a, 3 => some (a + 2)
  | 4, a, 4 => some (a + 3)
  | 5, a, 0 => some (a + 1)
  | 5, a, 1 => some (a + 5)
  | 5, a, 3 => some (a + 6)
  | 5, a, 4 => some (a + 7)
  | 5, a, 5 => some (a + 8)
  | 5, a, 7 => some (a + 9)
  | 6, a, 4 => some (a + 1)
  | 6, a, 9 => some (a + 2)
  | 6, a, 10 => some (a + 11)
  | 6, a, 11 => some (a + 20)
  | 6, a, 12 => some (a + 21)
  | 6, a, 5 => some (a + 22)
  | 8, a, 0 => some (a + 1)
  | 9, a, 7 => some (a + 1)
  | 9, a, 8 => some (a + 2)
  | 10, a, 2 => some (a + 1)
  | 11, a, 0 => some (a + 1)
  | 11, a, 5 => some (a + 34)
  | 11, a, 6 => some (a + 37)
  | 11, a, 7 => some (a + 207)
  | 11, a, 9 => some (a + 377)
  | 11, a, 10 => some (a + 381)
  | 11, a, 11 => some (a + 384)
  | 11, a, 12 => some (a + 394)
  | 12, a, 0 => some (a + 1)
  | 12, a, 1 => some (a + 2)
  | 12, a, 3 => some (a + 3)
  | 12, a, 4 => some (a + 4)
  | 12, a, 5 => some (a + 5)
  | 12, a, 6 => some (a + 6)
  | 12, a, 7 => some (a + 7)
  | 12, a, 8 => some (a + 8)
  | 12, a, 9 => some (a + 9)
  | 12, a, 10 => some (a + 10)
  | 12, a, 11 => some (a + 11)
  | 12, a, 12 => some (a + 12)
  | 12, a, 13 => some (a + 13)
  | 12, a, 14 => some (a + 14)
  | 12, a, 15 => some (a + 15)
  | 12, a, 26 => some (a + 16)
  | 12, a, 27 => some (a + 17)
  | 12, a, 31 => some (a + 18)
  | 12, a, 32 => some (a + 19)
  | 12, a, 33 => some (a + 20)
  | 12, a, 34 => some (a + 21)
  | 12, a, 41 => some (a + 22)
  | 12, a, 44 => some (a + 23)
  | 12, a, 47 => some (a + 24)
  | 12, a, 48 => some (a + 25)
  | 12, a, 49 => some (a + 26)
  | 12, a, 51 => some (a + 27)
  | 12, a, 55 => some (a + 28)
  | 12, a, 56 => some (a + 29)
  | 12, a, 57 => some (a + 30)
  | 12, a, 58 => some (a + 31)
  | 12, a, 59 => some (a + 32)
  | 12, a, 60 => some (a + 33)
  | 24, a, i => some (a + 7 + i)
  | 26, a, i => some (if a = 420 then 1000020 + i else 1000023 + i)
  | 27, a, i => some (a + 1 + i)
  | _, _, _ => none
def rf (s : sg) (ci a j : Nat) : Nat := (imK ci a j).getD (s.2.1 a j)
def mkF (s : sg) (ci a : Nat) : List Value := (ftab.getD ci []).mapIdx fun j b => if b then .int (s.1 a j) else .ref (rf s ci a j)
def mkE (s : sg) (a : Nat) (k : Nat × Nat) : Option mm_E :=
  if k.1 < 13 then some (.inr (k.1, mkF s k.1 a))
  else if k.1 = 20 then some (.inl (.int, k.2, .inl (s.1 a)))
  else if k.1 = 21 then some (.inl (.byte, k.2, .inl (s.1 a)))
  else if k.1 = 22 then some (.inl (.boolean, k.2, .inl (s.1 a)))
  else if k.1 = 23 then some (.inl (.long, k.2, .inr (.inl s.2.2)))
  else if k.1 = 24 then some (.inl (.object "CloudTakes$Shot", k.2, .inr (.inr (.inr (.inr fun j => if j < k.2 then some (rf s 24 a j) else none)))))
  else if k.1 = 25 then some (.inl (.object "CloudTakes$State", k.2, .inr (.inr (.inr (.inr fun j => if j < k.2 then some (rf s 25 a j) else none)))))
  else if k.1 = 26 then some (.inl (.object "java/lang/String", k.2, .inr (.inr (.inr (.inr fun j => if j < k.2 then some (rf s 26 a j) else none)))))
  else if k.1 = 27 then some (.inl (.array .int, k.2, .inr (.inr (.inr (.inr fun j => if j < k.2 then some (rf s 27 a j) else none)))))
  else none
def mk (s : sg) : mm_C := fun a => mkE s a (kd a)
def sI (s : sg) (a j : Nat) (x : Int32) : sg := (fun a' j' => if a' = a ∧ j' = j then x else s.1 a' j', s.2)
def sR (s : sg) (a j : Nat) (x : Nat) : sg := (s.1, (fun a' j' => if a' = a ∧ j' = j then x else s.2.1 a' j'), s.2.2)
def sL (s : sg) (j : Nat) (x : Int64) : sg := (s.1, s.2.1, fun j' => if j' = j then x else s.2.2 j')
/-- a whole row is written -/
def sA (s : sg) (a : Nat) (f : Nat → Int32) : sg := (fun a' j' => if a' = a then f j' else s.1 a' j', s.2)
theorem sI_at (s : sg) (a j : Nat) (x : Int32) : (sI s a j x).1 a j = x := by simp [sI]
theorem sI_ne (s : sg) {a j a' j' : Nat} (x : Int32) (h : ¬ (a' = a ∧ j' = j)) : (sI s a j x).1 a' j' = s.1 a' j' := by simp [sI, h]
theorem sI_1 (s : sg) (a j : Nat) (x : Int32) (a' j' : Nat) : (sI s a j x).1 a' j' = if a' = a ∧ j' = j then x else s.1 a' j' := rfl
theorem sI_2 (s : sg) (a j : Nat) (x : Int32) : (sI s a j x).2 = s.2 := rfl
theorem sR_1 (s : sg) (a j x : Nat) : (sR s a j x).1 = s.1 := rfl
theorem sR_2 (s : sg) (a j x a' j' : Nat) : (sR s a j x).2.1 a' j' = if a' = a ∧ j' = j then x else s.2.1 a' j' := rfl
theorem sR_3 (s : sg) (a j x : Nat) : (sR s a j x).2.2 = s.2.2 := rfl
theorem sA_1 (s : sg) (a : Nat) (f : Nat → Int32) (a' j' : Nat) : (sA s a f).1 a' j' = if a' = a then f j' else s.1 a' j' := rfl
theorem sA_2 (s : sg) (a : Nat) (f : Nat → Int32) : (sA s a f).2 = s.2 := rfl
theorem mkF_len (s : sg) (ci a : Nat) : (mkF s ci a).length = (ftab.getD ci []).length := by simp [mkF]
theorem mkF_I {s : sg} {ci a j : Nat} (h : fI ci j = true) : (mkF s ci a)[j]? = some (.int (s.1 a j)) := by
  unfold fI at h
  have h := eq_of_beq h
  unfold mkF
  rw [List.getElem?_mapIdx, h]
  rfl
theorem mkF_R {s : sg} {ci a j : Nat} (h : fR ci j = true) : (mkF s ci a)[j]? = some (.ref (rf s ci a j)) := by
  unfold fR at h
  have h := eq_of_beq h
  unfold mkF
  rw [List.getElem?_mapIdx, h]
  rfl
theorem mk_obj {s : sg} {a ci : Nat} (h : (kd a).1 = ci) (hc : ci < 13) : mk s a = some (.inr (ci, mkF s ci a)) := by
  unfold mk mkE
  rw [h, if_pos hc]
theorem mk_int {s : sg} {a n : Nat} (h : kd a = (20, n)) : mk s a = some (.inl (.int, n, .inl (s.1 a))) := by
  unfold mk mkE
  rw [h]; rfl
theorem mk_byte {s : sg} {a n : Nat} (h : kd a = (21, n)) : mk s a = some (.inl (.byte, n, .inl (s.1 a))) := by
  unfold mk mkE
  rw [h]; rfl
theorem mk_bool {s : sg} {a n : Nat} (h : kd a = (22, n)) : mk s a = some (.inl (.boolean, n, .inl (s.1 a))) := by
  unfold mk mkE
  rw [h]; rfl
theorem mk_long {s : sg} {a n : Nat} (h : kd a = (23, n)) : mk s a = some (.inl (.long, n, .inr (.inl s.2.2))) := by
  unfold mk mkE
  rw [h]; rfl
theorem rf_sI (s : sg) (a j : Nat) (x : Int32) (ci a' j' : Nat) : rf (sI s a j x) ci a' j' = rf s ci a' j' := rfl
theorem rf_sA (s : sg) (a : Nat) (f : Nat → Int32) (ci a' j' : Nat) : rf (sA s a f) ci a' j' = rf s ci a' j' := rfl
theorem gI_mk {s : sg} {a ci j : Nat} (h : (kd a).1 = ci) (hj : fI ci j = true) (hc : ci < 13) : gI (mk s) a ci j = some (s.1 a j) := by
  unfold gI
  rw [mk_obj h hc]
  simp [mkF_I hj]
theorem gR_mk {s : sg} {a ci j : Nat} (h : (kd a).1 = ci) (hj : fR ci j = true) (hc : ci < 13) : gR (mk s) a ci j = some (rf s ci a j) := by
  unfold gR
  rw [mk_obj h hc]
  simp [mkF_R hj]
theorem isO_mk {s : sg} {a ci : Nat} (h : (kd a).1 = ci) (hc : ci < 13) : isO (mk s) a ci = true := isO_of (mk_obj h hc)
theorem mk_ext {s s' : sg} {a : Nat} {e : mm_E} (h1 : mk s' a = some e) (h2 : ∀ a', a' ≠ a → mk s' a' = mk s a') : cup (mk s) a e = mk s' := by
  funext a'
  unfold cup
  by_cases h : a' = a
  · subst h; rw [if_pos rfl, h1]
  · rw [if_neg h, h2 a' h]
theorem mkF_sI_ne {s : sg} {a j ci a' : Nat} {x : Int32} (h : a' ≠ a) : mkF (sI s a j x) ci a' = mkF s ci a' := by
  unfold mkF
  congr 1
  funext j' b
  simp only [sI_1, rf_sI, h, false_and, if_false]
theorem sI_row {s : sg} {a j a' : Nat} {x : Int32} (h : a' ≠ a) : (sI s a j x).1 a' = s.1 a' := by
  funext j'
  rw [sI_1, if_neg (fun q => h q.1)]
theorem mk_sI_ne {s : sg} {a j a' : Nat} {x : Int32} (h : a' ≠ a) : mk (sI s a j x) a' = mk s a' := by
  unfold mk mkE
  simp only [mkF_sI_ne h, sI_row h, sI_2, rf_sI]
theorem sA_row {s : sg} {a a' : Nat} {f : Nat → Int32} (h : a' ≠ a) : (sA s a f).1 a' = s.1 a' := by
  funext j'
  rw [sA_1, if_neg h]
theorem mk_sA_ne {s : sg} {a a' : Nat} {f : Nat → Int32} (h : a' ≠ a) : mk (sA s a f) a' = mk s a' := by
  have : ∀ ci, mkF (sA s a f) ci a' = mkF s ci a' := by
    intro ci
    unfold mkF
    congr 1
    funext j' b
    rw [sA_1, if_neg h, rf_sA]
  unfold mk mkE
  simp only [this, sA_row h, sA_2, rf_sA]
theorem mkF_set {s : sg} {ci a j : Nat} {x : Int32} (h : fI ci j = true) : (mkF s ci a).set j (.int x) = mkF (sI s a j x) ci a := by
  apply List.ext_getElem?
  intro i
  rw [List.getElem?_set]
  by_cases hi : j = i
  · subst hi
    have hl : j < (mkF s ci a).length := by
      have := mkF_I (s := s) (a := a) h
      exact (List.getElem?_eq_some_iff.mp this).1
    rw [if_pos rfl, if_pos hl, mkF_I h, sI_at]
  · rw [if_neg hi]
    unfold mkF
    rw [List.getElem?_mapIdx, List.getElem?_mapIdx]
    cases (ftab.getD ci [])[i]? with
    | none => rfl
    | some b =>
      have h9 : ¬ i = j := fun q => hi q.symm
      simp only [Option.map_some, rf_sI, sI_1, h9, and_false, if_false]
theorem pI_mk {s : sg} {a ci j : Nat} {x : Int32} (h : (kd a).1 = ci) (hj : fI ci j = true) (hc : ci < 13) : pI (mk s) a ci j x = some (mk (sI s a j x)) := by
  unfold pI pV
  rw [mk_obj h hc]
  have hl : j < (mkF s ci a).length := (List.getElem?_eq_some_iff.mp (mkF_I (s := s) (a := a) hj)).1
  simp only [hl, and_self, if_true, mkF_set hj]
  rw [mk_ext (s := s) (mk_obj h hc) (fun a' h' => mk_sI_ne h')]
theorem pZ_mk {s : sg} {a ci j : Nat} {x : Int32} (h : (kd a).1 = ci) (hj : fI ci j = true) (hc : ci < 13) (hx : x = 0 ∨ x = 1) : pZ (mk s) a ci j x = some (mk (sI s a j x)) := by
  unfold pZ
  rw [if_pos hx]
  exact pI_mk h hj hc
theorem mkF_setR {s : sg} {ci a j : Nat} {x : Nat} (h : fR ci j = true) (hm : imK ci a j = none) : (mkF s ci a).set j (.ref x) = mkF (sR s a j x) ci a := by
  apply List.ext_getElem?
  intro i
  rw [List.getElem?_set]
  by_cases hi : j = i
  · subst hi
    have hl : j < (mkF s ci a).length := (List.getElem?_eq_some_iff.mp (mkF_R (s := s) (a := a) h)).1
    rw [if_pos rfl, if_pos hl, mkF_R h]
    unfold rf
    rw [hm]
    simp [sR_2]
  · rw [if_neg hi]
    unfold mkF
    rw [List.getElem?_mapIdx, List.getElem?_mapIdx]
    cases (ftab.getD ci [])[i]? with
    | none => rfl
    | some b =>
      have h9 : ¬ i = j := fun q => hi q.symm
      simp only [Option.map_some, rf, sR_2, sR_1, h9, and_false, if_false]
theorem mk_sR_ne {s : sg} {a j a' : Nat} {x : Nat} (h : a' ≠ a) : mk (sR s a j x) a' = mk s a' := by
  have hr : ∀ ci j', rf (sR s a j x) ci a' j' = rf s ci a' j' := by
    intro ci j'
    unfold rf
    rw [sR_2, if_neg (fun q => h q.1)]
  have : ∀ ci, mkF (sR s a j x) ci a' = mkF s ci a' := by
    intro ci
    unfold mkF
    congr 1
    funext j' b
    rw [sR_1, hr]
  unfold mk mkE
  simp only [this, sR_1, sR_3, hr]
theorem pR_mk {s : sg} {a ci j : Nat} {x : Nat} (h : (kd a).1 = ci) (hj : fR ci j = true) (hm : imK ci a j = none) (hc : ci < 13) : pR (mk s) a ci j x = some (mk (sR s a j x)) := by
  unfold pR pV
  rw [mk_obj h hc]
  have hl : j < (mkF s ci a).length := (List.getElem?_eq_some_iff.mp (mkF_R (s := s) (a := a) hj)).1
  simp only [hl, and_self, if_true, mkF_setR hj hm]
  rw [mk_ext (s := s) (mk_obj h hc) (fun a' h' => mk_sR_ne h')]
theorem aI_mk {s : sg} {a n : Nat} {i : Int32} (h : kd a = (20, n)) (hi : inA i n) : aI (mk s) a i = some (s.1 a i.toNatClampNeg) := by
  unfold aI
  rw [mk_int h]
  exact if_pos hi
theorem aB_mk {s : sg} {a n : Nat} {i : Int32} (h : kd a = (21, n)) (hi : inA i n) : aB (mk s) a i = some (s.1 a i.toNatClampNeg) := by
  unfold aB
  rw [mk_byte h]
  exact if_pos hi
theorem aZ_mk {s : sg} {a n : Nat} {i : Int32} (h : kd a = (22, n)) (hi : inA i n) : aZ (mk s) a i = some (s.1 a i.toNatClampNeg) := by
  unfold aZ
  rw [mk_bool h]
  exact if_pos hi
theorem aL_mk {s : sg} {a n : Nat} {i : Int32} (h : kd a = (23, n)) (hi : inA i n) : aL (mk s) a i = some (s.2.2 i.toNatClampNeg) := by
  unfold aL
  rw [mk_long h]
  exact if_pos hi
theorem sI_self (s : sg) (a j : Nat) (x : Int32) : (sI s a j x).1 a = upd (s.1 a) j x := by
  funext j'
  unfold upd
  rw [sI_1]
  simp
theorem tI_mk {s : sg} {a n : Nat} {i x : Int32} (h : kd a = (20, n)) (hi : inA i n) : tI (mk s) a i x = some (mk (sI s a i.toNatClampNeg x)) := by
  unfold tI
  rw [mk_int h]
  simp only [if_pos hi]
  rw [mk_ext (s := s) (s' := sI s a i.toNatClampNeg x) (by rw [mk_int h, sI_self]) (fun a' h' => mk_sI_ne h')]
theorem tB_mk {s : sg} {a n : Nat} {i x : Int32} (h : kd a = (21, n)) (hi : inA i n) : tB (mk s) a i x = some (mk (sI s a i.toNatClampNeg (vp_nar .byte x))) := by
  unfold tB
  rw [mk_byte h]
  simp only [if_pos hi]
  rw [mk_ext (s := s) (s' := sI s a i.toNatClampNeg (vp_nar .byte x)) (by rw [mk_byte h, sI_self]) (fun a' h' => mk_sI_ne h')]
theorem tZ_mk {s : sg} {a n : Nat} {i x : Int32} (h : kd a = (22, n)) (hi : inA i n) : tZ (mk s) a i x = some (mk (sI s a i.toNatClampNeg (vp_nar .boolean x))) := by
  unfold tZ
  rw [mk_bool h]
  simp only [if_pos hi]
  rw [mk_ext (s := s) (s' := sI s a i.toNatClampNeg (vp_nar .boolean x)) (by rw [mk_bool h, sI_self]) (fun a' h' => mk_sI_ne h')]
theorem mk_sL_ne {s : sg} {j a' : Nat} {x : Int64} (h : a' ≠ 453) : mk (sL s j x) a' = mk s a' := by
  have h0 : (kd a').1 ≠ 23 := by
    intro q
    have hlt : a' < 454 := by
      apply Nat.lt_of_not_le
      intro hge
      unfold kd at q
      rw [if_neg (by omega), List.getD_eq_getElem?_getD, List.getElem?_eq_none (by show 35 ≤ _; omega)] at q
      cases q
    have hall : ∀ a, a < 454 → a ≠ 453 → (kd a).1 ≠ 23 := by decide +kernel
    exact hall a' hlt h q
  unfold mk mkE
  rw [if_neg h0, if_neg h0]
  rfl
theorem tL_mk {s : sg} {i : Int32} {x : Int64} (hi : inA i 1) : tL (mk s) 453 i x = some (mk (sL s i.toNatClampNeg x)) := by
  unfold tL
  rw [mk_long (n := 1) (by rfl)]
  simp only [if_pos hi]
  rw [mk_ext (s := s) (s' := sL s i.toNatClampNeg x) (by rw [mk_long (n := 1) (by rfl)]; rfl) (fun a' h' => mk_sL_ne h')]
theorem aR_mk {s : sg} {a n ci : Nat} {i : Int32} {ty : FieldType} (h : kd a = (ci, n)) (hi : inA i n) (hc : (ci = 24 ∧ ty = .object "CloudTakes$Shot") ∨ (ci = 25 ∧ ty = .object "CloudTakes$State") ∨ (ci = 26 ∧ ty = .object "java/lang/String") ∨ (ci = 27 ∧ ty = .array .int)) : aR ty (mk s) a i = some (rf s ci a i.toNatClampNeg) := by
  have hlt : i.toNatClampNeg < n := Nat.lt_of_not_le fun q => hi (Or.inr q)
  unfold aR mk mkE
  rw [h]
  rcases hc with ⟨h1, h2⟩ | ⟨h1, h2⟩ | ⟨h1, h2⟩ | ⟨h1, h2⟩ <;> subst h1 h2 <;> simp only [Nat.reduceLT, Nat.reduceEqDiff, if_true, if_false, true_and, if_pos hi, if_pos hlt]
theorem aN_mk {s : sg} {a n ci : Nat} (h : kd a = (ci, n)) (hc : ci = 20 ∨ ci = 21 ∨ ci = 26) : aN (mk s) a = some (Int32.ofNat n) := by
  unfold aN mk mkE
  rw [h]
  rcases hc with h | h | h <;> subst h <;> rfl
theorem tR_mk {s : sg} {a n r : Nat} {i : Int32} (h : kd a = (25, n)) (hi : inA i n) (hr : (kd r).1 = 9) : tR "CloudTakes$State" 9 (mk s) a i r = some (mk (sR s a i.toNatClampNeg r)) := by
  have hlt : i.toNatClampNeg < n := Nat.lt_of_not_le fun q => hi (Or.inr q)
  have e : ∀ s', mk s' a = some (.inl (.object "CloudTakes$State", n, .inr (.inr (.inr (.inr fun j => if j < n then some (rf s' 25 a j) else none))))) := by
    intro s'
    unfold mk mkE
    rw [h]
    rfl
  unfold tR
  rw [e s]
  show (if FieldType.object "CloudTakes$State" = .object "CloudTakes$State" ∧ inA i n ∧ isO (mk s) r 9 = true then _ else none) = _
  rw [if_pos ⟨rfl, hi, isO_mk hr (by decide)⟩]
  congr 1
  refine mk_ext (s := s) (s' := sR s a i.toNatClampNeg r) ?_ (fun a' h' => mk_sR_ne h')
  rw [e]
  congr 8
  funext j
  unfold va_up
  by_cases hj : j = i.toNatClampNeg
  · subst hj
    rw [if_pos rfl, if_pos hlt]
    simp [rf, imK, sR_2]
  · rw [if_neg hj]
    simp [rf, imK, sR_2, hj]
theorem cV_mk {s : sg} {a ci : Nat} {α β : Type} {x : mR α} {f : α → mm_C → mR β} (h : (kd a).1 = ci) (hc : ci < 13) : cV ci a (mk s) x f = cS x f := by
  unfold cV
  rw [if_pos (isO_mk h hc)]
theorem cX_mk {s : sg} {a ci : Nat} {α β : Type} {x : mR α} {f : α → mm_C → mR β} {g : Nat → mm_C → mR β} (h : (kd a).1 = ci) (hc : ci < 13) : cX ci a (mk s) x f g = (match x with | none => none | some (.inl v, c) => f v c | some (.inr e, c) => g e c) := by
  unfold cX
  rw [if_pos (isO_mk h hc)]
  rfl
theorem cS_inl {α β : Type} {v : α} {c : mm_C} {f : α → mm_C → mR β} : cS (some (.inl v, c)) f = f v c := rfl
theorem cS_inr {α β : Type} {e : Nat} {c : mm_C} {f : α → mm_C → mR β} : cS (α := α) (some (.inr e, c)) f = some (.inr e, c) := rfl
theorem cpA_mk {s : sg} {a0 a1 n0 n1 ci : Nat} {sp dp m : Int32} {ty : FieldType} (h0 : kd a0 = (ci, n0)) (h1 : kd a1 = (ci, n1)) (hty : (ci = 20 ∧ ty = .int) ∨ (ci = 21 ∧ ty = .byte)) (q1 : ¬ sp < 0) (q2 : ¬ dp < 0) (q3 : ¬ m < 0) (q4 : sp.toNatClampNeg + m.toNatClampNeg ≤ n0) (q5 : dp.toNatClampNeg + m.toNatClampNeg ≤ n1) (q6 : ∀ i, i < m.toNatClampNeg → fits ty (.int (s.1 a0 (sp.toNatClampNeg + i))) = true) : cpA ty (mk s) a0 sp a1 dp m = some (mk (sA s a1 (va_cpy (s.1 a0) (s.1 a1) sp.toNatClampNeg dp.toNatClampNeg m.toNatClampNeg))) := by
  have e : ∀ (s : sg) a n, kd a = (ci, n) → mk s a = some (.inl (ty, n, .inl (s.1 a))) := by
    intro s a n h
    rcases hty with ⟨e1, e2⟩ | ⟨e1, e2⟩ <;> subst e1 e2
    · exact mk_int h
    · exact mk_byte h
  unfold cpA
  rw [e s a0 n0 h0, e s a1 n1 h1]
  refine (if_pos ⟨rfl, rfl, q1, q2, q3, q4, q5, q6⟩).trans ?_
  rw [mk_ext (s := s) (s' := sA s a1 (va_cpy (s.1 a0) (s.1 a1) sp.toNatClampNeg dp.toNatClampNeg m.toNatClampNeg)) ?_ (fun a' h' => mk_sA_ne h')]
  rw [e _ a1 n1 h1]
  congr 5
  funext j
  rw [sA_1, if_pos rfl]
theorem rf_0_6 (s : sg) (a : Nat) : rf s 0 a 6 = a + 1 := rfl
theorem rf_0_7 (s : sg) (a : Nat) : rf s 0 a 7 = a + 2 := rfl
theorem rf_0_8 (s : sg) (a : Nat) : rf s 0 a 8 = a + 3 := rfl
theorem rf_0_9 (s : sg) (a : Nat) : rf s 0 a 9 = a + 7 := rfl
theorem rf_1_0 (s : sg) (a : Nat) : rf s 1 a 0 = a + 1 := rfl
theorem rf_1_1 (s : sg) (a : Nat) : rf s 1 a 1 = a + 2 := rfl
theorem rf_2_2 (s : sg) (a : Nat) : rf s 2 a 2 = a + 1 := rfl
theorem rf_3_6 (s : sg) (a : Nat) : rf s 3 a 6 = a + 1 := rfl
theorem rf_3_7 (s : sg) (a : Nat) : rf s 3 a 7 = a + 2 := rfl
theorem rf_3_8 (s : sg) (a : Nat) : rf s 3 a 8 = a + 4 := rfl
theorem rf_4_1 (s : sg) (a : Nat) : rf s 4 a 1 = a + 1 := rfl
theorem rf_4_3 (s : sg) (a : Nat) : rf s 4 a 3 = a + 2 := rfl
theorem rf_4_4 (s : sg) (a : Nat) : rf s 4 a 4 = a + 3 := rfl
theorem rf_5_0 (s : sg) (a : Nat) : rf s 5 a 0 = a + 1 := rfl
theorem rf_5_1 (s : sg) (a : Nat) : rf s 5 a 1 = a + 5 := rfl
theorem rf_5_3 (s : sg) (a : Nat) : rf s 5 a 3 = a + 6 := rfl
theorem rf_5_4 (s : sg) (a : Nat) : rf s 5 a 4 = a + 7 := rfl
theorem rf_5_5 (s : sg) (a : Nat) : rf s 5 a 5 = a + 8 := rfl
theorem rf_5_7 (s : sg) (a : Nat) : rf s 5 a 7 = a + 9 := rfl
theorem rf_6_4 (s : sg) (a : Nat) : rf s 6 a 4 = a + 1 := rfl
theorem rf_6_9 (s : sg) (a : Nat) : rf s 6 a 9 = a + 2 := rfl
theorem rf_6_10 (s : sg) (a : Nat) : rf s 6 a 10 = a + 11 := rfl
theorem rf_6_11 (s : sg) (a : Nat) : rf s 6 a 11 = a + 20 := rfl
theorem rf_6_12 (s : sg) (a : Nat) : rf s 6 a 12 = a + 21 := rfl
theorem rf_6_5 (s : sg) (a : Nat) : rf s 6 a 5 = a + 22 := rfl
theorem rf_8_0 (s : sg) (a : Nat) : rf s 8 a 0 = a + 1 := rfl
theorem rf_9_7 (s : sg) (a : Nat) : rf s 9 a 7 = a + 1 := rfl
theorem rf_9_8 (s : sg) (a : Nat) : rf s 9 a 8 = a + 2 := rfl
theorem rf_10_2 (s : sg) (a : Nat) : rf s 10 a 2 = a + 1 := rfl
theorem rf_11_0 (s : sg) (a : Nat) : rf s 11 a 0 = a + 1 := rfl
theorem rf_11_5 (s : sg) (a : Nat) : rf s 11 a 5 = a + 34 := rfl
theorem rf_11_6 (s : sg) (a : Nat) : rf s 11 a 6 = a + 37 := rfl
theorem rf_11_7 (s : sg) (a : Nat) : rf s 11 a 7 = a + 207 := rfl
theorem rf_11_9 (s : sg) (a : Nat) : rf s 11 a 9 = a + 377 := rfl
theorem rf_11_10 (s : sg) (a : Nat) : rf s 11 a 10 = a + 381 := rfl
theorem rf_11_11 (s : sg) (a : Nat) : rf s 11 a 11 = a + 384 := rfl
theorem rf_11_12 (s : sg) (a : Nat) : rf s 11 a 12 = a + 394 := rfl
theorem rf_12_0 (s : sg) (a : Nat) : rf s 12 a 0 = a + 1 := rfl
theorem rf_12_1 (s : sg) (a : Nat) : rf s 12 a 1 = a + 2 := rfl
theorem rf_12_3 (s : sg) (a : Nat) : rf s 12 a 3 = a + 3 := rfl
theorem rf_12_4 (s : sg) (a : Nat) : rf s 12 a 4 = a + 4 := rfl
theorem rf_12_5 (s : sg) (a : Nat) : rf s 12 a 5 = a + 5 := rfl
theorem rf_12_6 (s : sg) (a : Nat) : rf s 12 a 6 = a + 6 := rfl
theorem rf_12_7 (s : sg) (a : Nat) : rf s 12 a 7 = a + 7 := rfl
theorem rf_12_8 (s : sg) (a : Nat) : rf s 12 a 8 = a + 8 := rfl
theorem rf_12_9 (s : sg) (a : Nat) : rf s 12 a 9 = a + 9 := rfl
theorem rf_12_10 (s : sg) (a : Nat) : rf s 12 a 10 = a + 10 := rfl
theorem rf_12_11 (s : sg) (a : Nat) : rf s 12 a 11 = a + 11 := rfl
theorem rf_12_12 (s : sg) (a : Nat) : rf s 12 a 12 = a + 12 := rfl
theorem rf_12_13 (s : sg) (a : Nat) : rf s 12 a 13 = a + 13 := rfl
theorem rf_12_14 (s : sg) (a : Nat) : rf s 12 a 14 = a + 14 := rfl
theorem rf_12_15 (s : sg) (a : Nat) : rf s 12 a 15 = a + 15 := rfl
theorem rf_12_26 (s : sg) (a : Nat) : rf s 12 a 26 = a + 16 := rfl
theorem rf_12_27 (s : sg) (a : Nat) : rf s 12 a 27 = a + 17 := rfl
theorem rf_12_31 (s : sg) (a : Nat) : rf s 12 a 31 = a + 18 := rfl
theorem rf_12_32 (s : sg) (a : Nat) : rf s 12 a 32 = a + 19 := rfl
theorem rf_12_33 (s : sg) (a : Nat) : rf s 12 a 33 = a + 20 := rfl
theorem rf_12_34 (s : sg) (a : Nat) : rf s 12 a 34 = a + 21 := rfl
theorem rf_12_41 (s : sg) (a : Nat) : rf s 12 a 41 = a + 22 := rfl
theorem rf_12_44 (s : sg) (a : Nat) : rf s 12 a 44 = a + 23 := rfl
theorem rf_12_47 (s : sg) (a : Nat) : rf s 12 a 47 = a + 24 := rfl
theorem rf_12_48 (s : sg) (a : Nat) : rf s 12 a 48 = a + 25 := rfl
theorem rf_12_49 (s : sg) (a : Nat) : rf s 12 a 49 = a + 26 := rfl
theorem rf_12_51 (s : sg) (a : Nat) : rf s 12 a 51 = a + 27 := rfl
theorem rf_12_55 (s : sg) (a : Nat) : rf s 12 a 55 = a + 28 := rfl
theorem rf_12_56 (s : sg) (a : Nat) : rf s 12 a 56 = a + 29 := rfl
theorem rf_12_57 (s : sg) (a : Nat) : rf s 12 a 57 = a + 30 := rfl
theorem rf_12_58 (s : sg) (a : Nat) : rf s 12 a 58 = a + 31 := rfl
theorem rf_12_59 (s : sg) (a : Nat) : rf s 12 a 59 = a + 32 := rfl
theorem rf_12_60 (s : sg) (a : Nat) : rf s 12 a 60 = a + 33 := rfl
theorem rf_24 (s : sg) (a i : Nat) : rf s 24 a i = a + 7 + i := rfl
theorem rf_27 (s : sg) (a i : Nat) : rf s 27 a i = a + 1 + i := rfl
