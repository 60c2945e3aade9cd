/- needs: 30.sabs -/
/-! paths: the first row of a set's shots that is ended by a goal -/
def pck (g : Nat → Option (List Nat)) : Nat → Nat → Option (List Nat)
  | 0, _ => none
  | f + 1, k => match g k with
    | some l => some l
    | none => pck g f (k + 1)
theorem pck_s (g : Nat → Option (List Nat)) (f k : Nat) : pck g (f + 1) k = match g k with
    | some l => some l
    | none => pck g f (k + 1) := rfl
theorem pck_some {g : Nat → Option (List Nat)} {l : List Nat} : ∀ {f k : Nat}, pck g f k = some l → ∃ i, k ≤ i ∧ i < k + f ∧ g i = some l ∧ ∀ j, k ≤ j → j < i → g j = none
  | 0, _, h => by cases h
  | f + 1, k, h => by
    rw [pck_s] at h
    cases hg : g k with
    | some l' =>
      rw [hg] at h
      exact ⟨k, by omega, by omega, by rw [hg]; exact h, fun j h1 h2 => by omega⟩
    | none =>
      rw [hg] at h
      obtain ⟨i, h1, h2, h3, h4⟩ := pck_some h
      refine ⟨i, by omega, by omega, h3, fun j q1 q2 => ?_⟩
      by_cases e : j = k
      · rw [e]; exact hg
      · exact h4 j (by omega) q2
theorem pck_is {g : Nat → Option (List Nat)} : ∀ {f k i : Nat}, k ≤ i → i < k + f → (g i).isSome = true → (pck g f k).isSome = true
  | 0, _, _, _, _, _ => by omega
  | f + 1, k, i, h1, h2, h3 => by
    rw [pck_s]
    cases hg : g k with
    | some l => rfl
    | none =>
      refine pck_is (i := i) ?_ (by omega) h3
      by_cases e : k = i
      · subst e; rw [hg] at h3; cases h3
      · omega
theorem pck_cg {g g' : Nat → Option (List Nat)} : ∀ {f k : Nat}, (∀ i, k ≤ i → i < k + f → g i = g' i) → pck g f k = pck g' f k
  | 0, _, _ => rfl
  | f + 1, k, h => by rw [pck_s, pck_s, h k (by omega) (by omega), pck_cg (fun i h1 h2 => h i (by omega) (by omega))]
/-- the time at which one is there -/
def tmv (mv p q t : Nat) : Nat := if q = p then t else t + mv
def dfs (n mv goal : Nat) (bh : Nat → Nat → Nat) (pl : Nat → Nat) (fr : Nat → Nat → Bool) : Nat → Nat → Nat → Nat → Option (List Nat)
  | 0, _, _, _ => none
  | f + 1, rest, p, t => if rest = 0 then (if t ≤ goal then some [] else none) else pck (fun k => if rest.testBit k = true ∧ fr k rest = true ∧ bh k (tmv mv p (pl k) t) ≤ goal then (dfs n mv goal bh pl fr f (rest - 2 ^ k) (pl k) (bh k (tmv mv p (pl k) t))).map (fun l => k :: l) else none) n 0
theorem dfs_s (n mv goal : Nat) (bh : Nat → Nat → Nat) (pl : Nat → Nat) (fr : Nat → Nat → Bool) (f rest p t : Nat) : dfs n mv goal bh pl fr (f + 1) rest p t = if rest = 0 then (if t ≤ goal then some [] else none) else pck (fun k => if rest.testBit k = true ∧ fr k rest = true ∧ bh k (tmv mv p (pl k) t) ≤ goal then (dfs n mv goal bh pl fr f (rest - 2 ^ k) (pl k) (bh k (tmv mv p (pl k) t))).map (fun l => k :: l) else none) n 0 := rfl
def dfr (n mv goal : Nat) (bh : Nat → Nat → Nat) (pl : Nat → Nat) (fr : Nat → Nat → Bool) (rest p t : Nat) : Option (List Nat) := dfs n mv goal bh pl fr (pcf rest + 1) rest p t
section SP
variable {n D mv goal : Nat} {bh : Nat → Nat → Nat} {pl : Nat → Nat} {op fr : Nat → Nat → Bool}
theorem dfr_0 (p t : Nat) : dfr n mv goal bh pl fr 0 p t = if t ≤ goal then some [] else none := rfl
theorem dfr_s {rest p t : Nat} (hn : n ≤ 8) (hr : rest < 256) (h0 : rest ≠ 0) : dfr n mv goal bh pl fr rest p t = pck (fun k => if rest.testBit k = true ∧ fr k rest = true ∧ bh k (tmv mv p (pl k) t) ≤ goal then (dfr n mv goal bh pl fr (rest - 2 ^ k) (pl k) (bh k (tmv mv p (pl k) t))).map (fun l => k :: l) else none) n 0 := by
  unfold dfr
  rw [dfs_s, if_neg h0]
  refine pck_cg (fun k _ hk => ?_)
  by_cases c : rest.testBit k = true ∧ fr k rest = true ∧ bh k (tmv mv p (pl k) t) ≤ goal
  · rw [if_pos c, if_pos c, (pcf_rem rest hr k (by omega) c.1).1]
  · rw [if_neg c, if_neg c]
theorem dfr_is {rest p t : Nat} (hn : n ≤ 8) (hr : rest < 256) (h0 : rest ≠ 0) : (dfr n mv goal bh pl fr rest p t).isSome = true ↔ ∃ k, k < n ∧ rest.testBit k = true ∧ fr k rest = true ∧ bh k (tmv mv p (pl k) t) ≤ goal ∧ (dfr n mv goal bh pl fr (rest - 2 ^ k) (pl k) (bh k (tmv mv p (pl k) t))).isSome = true := by
  rw [dfr_s hn hr h0]
  constructor
  · intro h
    obtain ⟨l, hl⟩ := Option.isSome_iff_exists.mp h
    obtain ⟨k, h1, h2, h3, h4⟩ := pck_some hl
    by_cases c : rest.testBit k = true ∧ fr k rest = true ∧ bh k (tmv mv p (pl k) t) ≤ goal
    · rw [if_pos c] at h3
      refine ⟨k, by omega, c.1, c.2.1, c.2.2, ?_⟩
      cases hq : dfr n mv goal bh pl fr (rest - 2 ^ k) (pl k) (bh k (tmv mv p (pl k) t)) with
      | none => rw [hq] at h3; cases h3
      | some _ => rfl
    · rw [if_neg c] at h3; cases h3
  · rintro ⟨k, h1, h2, h3, h4, h5⟩
    refine pck_is (i := k) (by omega) (by omega) ?_
    rw [if_pos ⟨h2, h3, h4⟩, Option.isSome_map]
    exact h5
/-- the first step of the path that is found -/
theorem dfr_hd {rest p t : Nat} {l : List Nat} (hn : n ≤ 8) (hr : rest < 256) (h0 : rest ≠ 0) (h : dfr n mv goal bh pl fr rest p t = some l) : ∃ k l', k < n ∧ l = k :: l' ∧ rest.testBit k = true ∧ fr k rest = true ∧ bh k (tmv mv p (pl k) t) ≤ goal ∧ dfr n mv goal bh pl fr (rest - 2 ^ k) (pl k) (bh k (tmv mv p (pl k) t)) = some l' ∧ ∀ j, j < k → rest.testBit j = true → fr j rest = true → bh j (tmv mv p (pl j) t) ≤ goal → dfr n mv goal bh pl fr (rest - 2 ^ j) (pl j) (bh j (tmv mv p (pl j) t)) = none := by
  rw [dfr_s hn hr h0] at h
  obtain ⟨k, h1, h2, h3, h4⟩ := pck_some h
  by_cases c : rest.testBit k = true ∧ fr k rest = true ∧ bh k (tmv mv p (pl k) t) ≤ goal
  · rw [if_pos c] at h3
    cases hq : dfr n mv goal bh pl fr (rest - 2 ^ k) (pl k) (bh k (tmv mv p (pl k) t)) with
    | none => rw [hq] at h3; cases h3
    | some l' =>
      rw [hq] at h3
      refine ⟨k, l', by omega, (Option.some.inj h3).symm, c.1, c.2.1, c.2.2, hq, fun j hj q1 q2 q3 => ?_⟩
      have := h4 j (by omega) hj
      rw [if_pos ⟨q1, q2, q3⟩] at this
      exact Option.map_eq_none_iff.mp this
  · rw [if_neg c] at h3; cases h3
theorem tmv_le (mv p q t : Nat) : t ≤ tmv mv p q t := by unfold tmv; split <;> omega
theorem dfr_le (hb : okB n D mv bh pl op) (hg : goal ≤ D) {rest p t : Nat} (hr : rest < 256) (h : (dfr n mv goal bh pl fr rest p t).isSome = true) : t ≤ goal := by
  by_cases h0 : rest = 0
  · subst h0
    rw [dfr_0] at h
    by_cases c : t ≤ goal
    · exact c
    · rw [if_neg c] at h; cases h
  · obtain ⟨k, h1, h2, h3, h4, h5⟩ := (dfr_is hb.1 hr h0).mp h
    have := hb.2.2.2.2.2.1 k _ h1 (Nat.le_trans h4 hg)
    have := tmv_le mv p (pl k) t
    omega
/-- had and rest are the two parts of S -/
def dj (had rest S : Nat) : Prop := had < 256 ∧ rest < 256 ∧ S < 256 ∧ ∀ j, j < 8 → S.testBit j = (had.testBit j || rest.testBit j) ∧ (had.testBit j && rest.testBit j) = false
theorem dj_0 {S : Nat} (h : S < 256) : dj 0 S S := ⟨by omega, h, h, fun j _ => by simp⟩
theorem dj_on {had rest S k : Nat} (h : dj had rest S) (hk : k < 8) (hr : rest.testBit k = true) : dj (had + 2 ^ k) (rest - 2 ^ k) S ∧ had ||| 2 ^ k = had + 2 ^ k := by
  obtain ⟨h1, h2, h3, h4⟩ := h
  have hk2 : had.testBit k = false := by have := (h4 k hk).2; rw [hr] at this; simpa using this
  have e := tb_or had h1 k hk hk2
  refine ⟨⟨e.2.1, Nat.lt_of_le_of_lt (Nat.sub_le _ _) h2, h3, fun j hj => ?_⟩, e.1⟩
  rw [tb_orj had h1 k hk hk2 j hj, tb_rem rest h2 k hk hr j hj]
  have := h4 j hj
  by_cases c : j = k
  · subst c; simp [this.1, hr]
  · simp [c, this.1, this.2]
theorem dj_back {had rest S k : Nat} (h : dj (had + 2 ^ k) rest S) (hk : k < 8) (hr : had.testBit k = false) (hh : had < 256) : dj had (rest + 2 ^ k) S ∧ (rest + 2 ^ k).testBit k = true := by
  obtain ⟨h1, h2, h3, h4⟩ := h
  have e1 := tb_orj had hh k hk hr
  have hk2 : rest.testBit k = false := by
    have := (h4 k hk).2
    rw [e1 k hk] at this
    simpa using this
  have e := tb_or rest h2 k hk hk2
  refine ⟨⟨hh, e.2.1, h3, fun j hj => ?_⟩, e.2.2⟩
  rw [tb_orj rest h2 k hk hk2 j hj]
  have := h4 j hj
  rw [e1 j hj] at this
  by_cases c : j = k
  · subst c; simp [this.1, hr]
  · simp [c] at this ⊢
    exact this
theorem dj_eq {had S : Nat} (h : dj had 0 S) : had = S := tb_ext h.1 h.2.2.1 (fun j hj => by rw [(h.2.2.2 j hj).1]; simp)
theorem dj_eq0 {rest S : Nat} (h : dj 0 rest S) : rest = S := tb_ext h.2.1 h.2.2.1 (fun j hj => by rw [(h.2.2.2 j hj).1]; simp)
/-- op, told by what is had, is fr, told by what is left -/
def opfr (n S : Nat) (op fr : Nat → Nat → Bool) : Prop := ∀ had rest k, k < n → dj had rest S → (op k had = true ↔ (S.testBit k = true → (rest.testBit k = true ∧ fr k rest = true)) ∧ (S.testBit k = false → op k had = true))
theorem lb_step (hb : okB n D mv bh pl op) {m i had k p t : Nat} {T : Nat → Nat} (hT : Tab n D mv bh pl op m i T) (hk : k < n) (hh : had < 2 ^ n) (ho : op k had = true) (hp : p ≤ 1) (ht : T (2 * had + p) ≤ t) : T (2 * (had ||| 2 ^ k) + pl k) ≤ bh k (tmv mv p (pl k) t) := by
  refine Nat.le_trans (hT.2.2.1 k had hk hh ho) (hb.2.2.2.2.1 k _ _ hk ?_)
  have := hb.2.2.2.2.2.2.1 k
  unfold tmv
  by_cases c : pl k = p
  · rw [if_pos c, c]
    exact Nat.le_trans (Nat.min_le_left _ _) ht
  · rw [if_neg c, show 1 - pl k = p by omega]
    exact Nat.le_trans (Nat.min_le_right _ _) (by omega)
theorem sub_lt {had rest S : Nat} (h : dj had rest S) (hS : S < 2 ^ n) : had < 2 ^ n := by
  have : had ≤ S := by
    have h2 : had ||| S = S := by
      apply Nat.eq_of_testBit_eq
      intro j
      rw [Nat.testBit_or]
      by_cases hj : j < 8
      · rw [(h.2.2.2 j hj).1]; cases had.testBit j <;> simp
      · have e : ∀ w, w < 256 → w.testBit j = false := fun w hw => Nat.testBit_lt_two_pow (Nat.lt_of_lt_of_le hw (show 2 ^ 8 ≤ 2 ^ j from Nat.pow_le_pow_right (by omega) (by omega)))
        rw [e had h.1, e S h.2.2.1]; rfl
    rw [← h2]
    exact Nat.left_le_or
  omega
/-- a path shows that the table has an end -/
theorem path_tab (hb : okB n D mv bh pl op) {m i S : Nat} {T : Nat → Nat} (hT : Tab n D mv bh pl op m i T) (hg : goal ≤ D) (hS : S < 2 ^ n) (hof : ∀ had rest k, k < n → dj had rest S → rest.testBit k = true → fr k rest = true → op k had = true) : ∀ (c rest had p t : Nat), pcf rest ≤ c → dj had rest S → p ≤ 1 → T (2 * had + p) ≤ t → (dfr n mv goal bh pl fr rest p t).isSome = true → ∃ q, q ≤ 1 ∧ T (2 * S + q) ≤ goal ∧ (rest ≠ 0 → ∃ k, k < n ∧ S.testBit k = true ∧ pl k = q) := by
  intro c
  induction c with
  | zero =>
    intro rest had p t hc hd hp ht h
    by_cases h0 : rest = 0
    · subst h0
      refine ⟨p, hp, ?_, fun q => absurd rfl q⟩
      rw [dj_eq hd] at ht
      exact Nat.le_trans ht (dfr_le hb hg (by omega) h)
    · exfalso
      obtain ⟨k, h1, h2, _⟩ := (dfr_is hb.1 hd.2.1 h0).mp h
      have := (pcf_rem rest hd.2.1 k (by have := hb.1; omega) h2).1
      omega
  | succ c ih =>
    intro rest had p t hc hd hp ht h
    by_cases h0 : rest = 0
    · subst h0
      refine ⟨p, hp, ?_, fun q => absurd rfl q⟩
      rw [dj_eq hd] at ht
      exact Nat.le_trans ht (dfr_le hb hg (by omega) h)
    · obtain ⟨k, h1, h2, h3, h4, h5⟩ := (dfr_is hb.1 hd.2.1 h0).mp h
      have hk8 : k < 8 := by have := hb.1; omega
      have hpc := (pcf_rem rest hd.2.1 k hk8 h2).1
      have hd2 := dj_on hd hk8 h2
      have ho := hof had rest k h1 hd h2 h3
      have hl := lb_step hb hT h1 (sub_lt hd hS) ho hp ht
      rw [hd2.2] at hl
      obtain ⟨q, q1, q2, q3⟩ := ih (rest - 2 ^ k) (had + 2 ^ k) (pl k) _ (by omega) hd2.1 (hb.2.2.2.2.2.2.1 k) hl h5
      have hSk : S.testBit k = true := by rw [(hd.2.2.2 k hk8).1, h2]; simp
      by_cases h9 : rest - 2 ^ k = 0
      · rw [h9] at h5 hd2
        refine ⟨pl k, hb.2.2.2.2.2.2.1 k, ?_, fun _ => ⟨k, h1, hSk, rfl⟩⟩
        have e := dj_eq hd2.1
        rw [e] at hl
        exact Nat.le_trans hl (dfr_le hb hg (by omega) h5)
      · exact ⟨q, q1, q2, fun _ => q3 h9⟩
/-- the table's ends come of a path -/
theorem tab_path (hb : okB n D mv bh pl op) {m i S : Nat} {T : Nat → Nat} (hT : Tab n D mv bh pl op m i T) (hi : i ≤ 1) (hg : goal ≤ D) (hof : ∀ had rest k, k < n → dj had rest S → rest.testBit k = true → op k had = true → fr k rest = true) : ∀ (had rest p : Nat), dj had rest S → p ≤ 1 → T (2 * had + p) ≠ 100000 → (dfr n mv goal bh pl fr rest p (T (2 * had + p))).isSome = true → (dfr n mv goal bh pl fr S i m).isSome = true := by
  intro had
  induction had using Nat.strongRecOn with
  | ind had ih =>
    intro rest p hd hp hne h
    by_cases h0 : had = 0
    · subst h0
      rw [dj_eq0 hd] at h
      by_cases e : p = i
      · subst e
        rw [show 2 * 0 + p = p by omega, hT.1] at h
        exact h
      · exfalso
        apply hne
        rw [show 2 * 0 + p = 1 - i by omega]
        exact hT.2.1
    · obtain ⟨k, h', a1, a2, a3, a4, a5, a6⟩ := hT.2.2.2.1 had p hp h0 hne
      have hk8 : k < 8 := by have := hb.1; omega
      have hkh := hb.2.2.2.2.2.2.2 k h' a3
      have hh8 : h' < 256 := by
        have : (2 : Nat) ^ n ≤ 2 ^ 8 := Nat.pow_le_pow_right (by omega) hb.1
        omega
      have e1 := tb_or h' hh8 k hk8 hkh
      rw [e1.1] at a4
      subst a4
      have hd2 := dj_back hd hk8 hkh hh8
      have hgo := dfr_le hb hg hd.2.1 h
      have hfr := hof h' (rest + 2 ^ k) k a1 hd2.1 hd2.2 a3
      have hpos := Nat.two_pow_pos k
      have hr2 : rest + 2 ^ k ≠ 0 := by omega
      have hlt := hb.2.2.2.2.2.1 k (min (T (2 * h' + pl k)) (T (2 * h' + (1 - pl k)) + mv)) a1 (by rw [← a6]; omega)
      rw [← a6] at hlt
      have hD := hb.2.1
      have hpk := hb.2.2.2.2.2.2.1 k
      have step : ∀ p', p' ≤ 1 → tmv mv p' (pl k) (T (2 * h' + p')) = min (T (2 * h' + pl k)) (T (2 * h' + (1 - pl k)) + mv) → (dfr n mv goal bh pl fr S i m).isSome = true := by
        intro p' hp' he
        refine ih h' (by omega) (rest + 2 ^ k) p' hd2.1 hp' ?_ ?_
        · have := tmv_le mv p' (pl k) (T (2 * h' + p'))
          omega
        · refine (dfr_is hb.1 hd2.1.2.1 hr2).mpr ⟨k, a1, hd2.2, hfr, ?_, ?_⟩
          · rw [he, ← a6]; exact hgo
          · rw [he, ← a6, show rest + 2 ^ k - 2 ^ k = rest by omega, a5]
            exact h
      by_cases c : T (2 * h' + pl k) ≤ T (2 * h' + (1 - pl k)) + mv
      · refine step (pl k) hpk ?_
        rw [Nat.min_eq_left c]
        exact if_pos rfl
      · refine step (1 - pl k) (by omega) ?_
        rw [Nat.min_eq_right (by omega)]
        exact if_neg (by omega)
end SP
