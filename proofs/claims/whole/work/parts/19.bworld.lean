/- needs: 15.acall 15.fun 18.alaw 19.aworld -/
theorem ww_K {s : State} {args : Array Value} (hts : ∀ w ∈ lw_tbl, w.before args s = true) : ∃ D : va_G, ∀ (c : Nat) (q : vw_C), mm_cl[c]? = some q → u_Kn s q.1 q.2.1 q.2.2 (D.1 c) (D.2 c) := by
  have hm : ∀ w ∈ mm_tbl, w.before args s = true := fun w hw => hts w (mm_tbl_in hw)
  have h0 : ∀ c : Nat, ∃ p : ClassId × (Nat → Nat), ∀ q : vw_C, mm_cl[c]? = some q → u_Kn s q.1 q.2.1 q.2.2 p.1 p.2 := by
    intro c
    cases hq : mm_cl[c]? with
    | none => exact ⟨(0, fun _ => 0), fun q h => by cases h⟩
    | some q =>
      obtain ⟨C, T, N⟩ := q
      have hin : Cond.instantiable C N ∈ mm_tbl := by
        match c, hq with
        | 0, h => cases h; exact wo_in0
        | 1, h => cases h; exact wo_in1
        | 2, h => cases h; exact wo_in2
        | 3, h => cases h; exact wo_in3
        | 4, h => cases h; exact wo_in4
        | 5, h => cases h; exact wo_in5
        | 6, h => cases h; exact wo_in6
        | 7, h => cases h; exact wo_in7
        | 8, h => cases h; exact wo_in8
        | 9, h => cases h; exact wo_in9
        | 10, h => cases h; exact wo_in10
        | 11, h => cases h; exact wo_in11
        | 12, h => cases h; exact wo_in12
      obtain ⟨cC, iS, h⟩ := u_known hm (mm_cls hq).1 (hm _ hin)
      exact ⟨(cC, iS), fun q h' => by cases h'; exact h⟩
  obtain ⟨f, hf⟩ := Classical.axiomOfChoice h0
  exact ⟨(fun c => (f c).1, fun c => (f c).2), fun c q hq => hf c q hq⟩
theorem ww_prim {s : State} {args : Array Value} {ty : FieldType} (h : (Cond.arrayClass ty).before args s = true) : ∃ cA : ClassId, ArrOfT s cA ty ∧ s.vm.findClass ("[" ++ ty.toString) = some cA := by
  obtain ⟨cA, kA, comp, h1, h2, h3⟩ := Cond.arrayClass_spec h
  exact ⟨cA, fun n z => ⟨fun k h => (by cases h), kA, h2, comp, h3⟩, h1⟩
theorem ww_A {s : State} {args : Array Value} (hts : ∀ w ∈ lw_tbl, w.before args s = true) : ∃ f : FieldType → ClassId, ∀ ty ∈ mm_types, ArrOfT s (f ty) ty ∧ va_RA s (f ty) ty := by
  have hob : ∀ C : String, (Cond.arrayOver (.object C)).before args s = true → ∃ cA : ClassId, ArrOfT s cA (.object C) ∧ va_RA s cA (.object C) := by
    intro C h
    obtain ⟨comp, c, k, h1, h2, h3, h4, h5⟩ := Cond.arrayOver_spec h
    exact ⟨c, fun n z => ⟨fun k h => (by cases h), k, h3, comp, h4⟩, k, comp, h3, h4, h1, h5⟩
  have h0 : ∀ ty : FieldType, ∃ c : ClassId, ty ∈ mm_types → ArrOfT s c ty ∧ va_RA s c ty := by
    intro ty
    by_cases hty : ty ∈ mm_types
    · have hx : ∃ c : ClassId, ArrOfT s c ty ∧ va_RA s c ty := by
        simp only [mm_types, List.mem_cons, List.not_mem_nil, or_false] at hty
        rcases hty with h | h | h | h | h | h | h | h <;> subst h
        · obtain ⟨c, h1, h2⟩ := ww_prim (hts _ (mm_tbl_in wo_arint)); exact ⟨c, h1, h2⟩
        · obtain ⟨c, h1, h2⟩ := ww_prim (hts _ (mm_tbl_in wo_arlong)); exact ⟨c, h1, h2⟩
        · obtain ⟨c, h1, h2⟩ := ww_prim (hts _ (mm_tbl_in wo_arbyte)); exact ⟨c, h1, h2⟩
        · obtain ⟨c, h1, h2⟩ := ww_prim (hts _ (mm_tbl_in wo_arboolean)); exact ⟨c, h1, h2⟩
        · exact hob _ (hts _ ww_aoS)
        · exact hob _ (hts _ ww_aoT)
        · exact hob _ (hts _ ww_aoU)
        · obtain ⟨comp, c, k, h1, h2, h3, h4, h5⟩ := arrayOverA_spec (hts _ ww_aoA)
          exact ⟨c, fun n z => ⟨fun k h => (by cases h), k, h3, comp, h4⟩, h5⟩
      obtain ⟨c, hc⟩ := hx
      exact ⟨c, fun _ => hc⟩
    · exact ⟨0, fun h => absurd h hty⟩
  exact Classical.axiomOfChoice h0
theorem ww_dist : ∀ i : Nat, i < 37 → ∀ j : Nat, j < 37 → i ≠ j → mm_sl.getD i 0 ≠ mm_sl.getD j 0 ∨ ∃ q, q < mm_sl.getD i 0 ∧ (mm_sb.getD i []).getD q 0 ≠ (mm_sb.getD j []).getD q 0 := by decide +kernel
theorem ww_S {s : State} {args : Array Value} {A : Nat → Prop} (hF : ∀ w ∈ ww_F, w.before args s = true) (hA : ∀ a : Nat, a < s.heap.size → ¬ A a) : ∃ adK adV : Nat → Nat, vk_S 37 mm_sl mm_sb adK adV A s s.heap ∧ ∀ i : Nat, i < 37 → (ww_tm i).eval args s none [] s = some (.ref (adK i)) := by
  have h0 : ∀ i : Nat, ∃ q : Nat × Nat, i < 37 → (ww_tm i).eval args s none [] s = some (.ref q.1) ∧ va_O "java/lang/String" q.1 A s s.heap ∧ va_OF "java/lang/String" "coder" "B" (.int 0) q.1 A s s.heap ∧ va_OF "java/lang/String" "value" "[B" (.ref q.2) q.1 A s s.heap ∧ va_T .byte q.2 (mm_sl.getD i 0) (fun j => .int ((mm_sb.getD i []).getD j 0)) A s s.heap := by
    intro i
    by_cases hi : i < 37
    · obtain ⟨a, c, cA, kA, q1, q2, q3, q4, q5, q6, -⟩ := Cond.exactly_spec (args := args) (first := s) (o := none) (s := s) (idx := []) (t := ww_tm i) (cls := "java/lang/String") (hF _ (List.mem_of_getElem? (ww_ex i hi)))
      obtain ⟨t, ht, hT⟩ := va_Tof (f := fun j => .int ((mm_sb.getD i []).getD j 0)) (A := A) (N := mm_sl.getD i 0) (by have := (st_len i hi).2; omega) (hF _ (List.mem_of_getElem? (ww_ar i hi))) (va_eqt (hF _ (List.mem_of_getElem? (ww_le i hi)))) (fun j hj => va_eqt (hF _ (List.mem_of_getElem? (ww_el i hi j hj)))) hA
      exact ⟨(a, t), fun _ => ⟨q1, ⟨cA, q3, q5, by rw [q6]; exact q2, hA a (Array.getElem?_eq_some_iff.mp q3).1⟩, vk_OFof q1 (va_eqt (hF _ (List.mem_of_getElem? (ww_co i hi)))) hA, vk_OFof q1 ht hA, hT⟩⟩
    · exact ⟨(0, 0), fun h => absurd h hi⟩
  obtain ⟨ad, had⟩ := Classical.axiomOfChoice h0
  refine ⟨fun i => (ad i).1, fun i => (ad i).2, ⟨fun i hi => (had i hi).2, fun i j hi hj e => ?_⟩, fun i hi => (had i hi).1⟩
  by_cases hij : i = j
  · exact hij
  exfalso
  obtain ⟨-, -, -, ⟨cf, k, n, f, cell, p1, p2, p3, p4, p5, -⟩, ⟨c1, t1, -, -, t2, t3, t4, -⟩⟩ := had i hi
  obtain ⟨-, -, -, ⟨cf', k', n', f', cell', p1', p2', p3', p4', p5', -⟩, ⟨c2, t1', -, -, t2', t3', t4', -⟩⟩ := had j hj
  have e : (ad i).1 = (ad j).1 := e
  rw [e] at p3
  cases p3.symm.trans p3'
  have ef : f = f' := by have := p1.symm.trans p1'; simp at this; exact this.2.2.2
  subst ef
  have ev := p5.symm.trans p5'
  have ev2 : (ad i).2 = (ad j).2 := by simpa using ev
  rw [ev2] at t1
  cases t1.symm.trans t1'
  have el : mm_sl.getD i 0 = mm_sl.getD j 0 := by
    have h1 : Int32.ofNat (mm_sl.getD i 0) = Int32.ofNat (mm_sl.getD j 0) := t3.symm.trans t3'
    exact (nI_eq (by have := (st_len i hi).2; omega) (by have := (st_len j hj).2; omega)).mp h1
  rcases ww_dist i hi j hj hij with h | ⟨q, hq, h⟩
  · exact h el
  · have h1 := (t4 q hq).symm.trans (t4' q (by omega))
    simp at h1
    exact h h1
theorem ww_eqr {args : Array Value} {s : State} {t u : Term} {a : Nat} (h : (Cond.eq t u).before args s = true) (ht : t.eval args s none [] s = some (.ref a)) : u.eval args s none [] s = some (.ref a) := by
  cases hv : u.eval args s none [] s with
  | none => simp [Cond.before, Cond.holds, Cond.value, ht, hv] at h
  | some w =>
    have : w = .ref a := by
      have h9 : (Cond.eq t u).value args s none s [] = some true := by simpa [Cond.before, Cond.holds] using h
      simp only [Cond.value, ht, hv] at h9
      revert h9
      cases w <;> simp <;> try (intro h; exact h.symm) <;> try exact fun h => h
    rw [this]
/-- the world at the law's entry -/
theorem ww_world {p : Program} {s : State} {m : MethodId} {meth : Method} {c : Code} {b L : Nat} {xs : Nat → Int32} (l : Launch) (hl : l.stackTraces = false) (hts : ∀ w ∈ lw_tbl, w.before #[Value.ref b] s = true) (hF : ∀ w ∈ ww_F, w.before #[Value.ref b] s = true) : ∃ Z : mm_Z, Z.1 = l ∧ Z.2.2.1 = s.heap ∧ Z.2.2.2.1 3000000 = b ∧ mm_K Z s := by
  obtain ⟨D, hD⟩ := ww_K hts
  obtain ⟨f, hf⟩ := ww_A hts
  have hA : ∀ a : Nat, a < s.heap.size → ¬ (fun q => s.heap.size ≤ q) a := fun a h1 h2 => Nat.not_le.mpr h1 h2
  obtain ⟨adK, adV, hS, hev⟩ := ww_S (A := fun q => s.heap.size ≤ q) hF hA
  obtain ⟨tf, zf, htf⟩ : ∃ tf zf : Nat, (Term.static "jdk/internal/util/Preconditions" "SIOOBE_FORMATTER" "Ljava/util/function/BiFunction;").eval #[Value.ref b] s none [] s = some (if zf = 0 then .null else .ref tf) := by
    have h := hF _ ww_zf.2.2
    cases hv : (Term.static "jdk/internal/util/Preconditions" "SIOOBE_FORMATTER" "Ljava/util/function/BiFunction;").eval #[Value.ref b] s none [] s with
    | none => simp [Cond.before, Cond.holds, Cond.value, hv] at h
    | some w =>
      cases w with
      | null => exact ⟨0, 0, rfl⟩
      | ref t => exact ⟨t, 1, rfl⟩
      | _ => simp [Cond.before, Cond.holds, Cond.value, hv] at h
  refine ⟨(l, D, s.heap, (fun i => if i < 1000000 then adK i else if i < 2000000 then adV (i - 1000000) else if i = 2000000 then tf else if i = 2000001 then zf else b), f), rfl, rfl, rfl, ?_⟩
  refine ⟨⟨hD, fun k q hk => ?_⟩, hl, ?_, ?_, vx_Zqof (hts _ ww_zu.1) (hts _ ww_zu.2.1) (hF _ ww_zu.2.2) hA, vx_Zqof (hts _ ww_zs.1) (hts _ ww_zs.2.1) (hF _ ww_zs.2.2) hA, va_Zof (hts _ ww_zc.1) (hts _ ww_zc.2.1) (va_eqt (hF _ ww_zc.2.2)) hA, ?_, ?_⟩
  · simp only [mm_tys, List.getElem?_map] at hk
    cases ht : mm_types[k]? with
    | none => rw [ht] at hk; cases hk
    | some ty =>
      rw [ht] at hk
      cases hk
      exact hf ty (List.mem_of_getElem? ht)
  · refine ⟨fun i hi => ?_, fun i j hi hj e => ?_⟩
    · have h1 := hS.1 i hi
      have e1 : (if i < 1000000 then adK i else if i < 2000000 then adV (i - 1000000) else if i = 2000000 then tf else if i = 2000001 then zf else b) = adK i := if_pos (by omega)
      have e2 : (if 1000000 + i < 1000000 then adK (1000000 + i) else if 1000000 + i < 2000000 then adV (1000000 + i - 1000000) else if 1000000 + i = 2000000 then tf else if 1000000 + i = 2000001 then zf else b) = adV i := by
        rw [if_neg (by omega), if_pos (by omega), Nat.add_sub_cancel_left]
      simp only [e1, e2]
      exact h1
    · simp only [if_pos (show i < 1000000 by omega), if_pos (show j < 1000000 by omega)] at e
      exact hS.2 i j hi hj e
  · intro r hr
    obtain ⟨i, hi⟩ := List.getElem?_of_mem hr
    have hlen : i < 41 := by
      have := (List.getElem?_eq_some_iff.mp hi).1
      exact this
    obtain ⟨r', h1, h2, h3, h4⟩ := ww_sr i hlen
    cases hi.symm.trans h1
    simp only [if_pos (show r.2.2.2 < 1000000 by omega)]
    refine vk_R.of (hts _ (List.mem_of_getElem? h2)) ?_
    rcases h4 with h4 | h4
    · rw [h4]; exact hev _ h3
    · exact ww_eqr (hF _ (List.mem_of_getElem? h4)) (hev _ h3)
  · have e : mm_tr (l, D, s.heap, (fun i => if i < 1000000 then adK i else if i < 2000000 then adV (i - 1000000) else if i = 2000000 then tf else if i = 2000001 then zf else b), f) (mm_fmt (l, D, s.heap, (fun i => if i < 1000000 then adK i else if i < 2000000 then adV (i - 1000000) else if i = 2000000 then tf else if i = 2000001 then zf else b), f)) = (if zf = 0 then .null else .ref tf) := by
      unfold mm_fmt
      by_cases hz : zf = 0
      · simp [mm_tr, hz]
      · simp [mm_tr, mm_ad, hz]
    rw [e]
    exact va_Zof (hts _ ww_zf.1) (hts _ ww_zf.2.1) htf hA
  · exact ⟨fun r hr => va_Nw.of rfl (hts _ (ww_nl r hr)), fun r hr => va_Nw.of rfl (hts _ (ww_ca r hr)), fun x hx => va_Nw.of rfl (hts _ (ww_de x hx)), fun r hr => va_Nc.of (hF _ (ww_nc r hr)), va_AO.of (hts _ ww_aoS), va_AO.of (hts _ ww_aoT), va_AO.of (hts _ ww_aoU), hts _ ww_aoA⟩
