/- needs: 26.cshot -/
/-! what one can have who knows the sky: the table of soonest ends, and paths -/
/-- when a shot is ended at the soonest that is begun in minute m or later -/
def bhd (c : Nat → Bool) (l : Nat) : Nat → Nat → Nat
  | 0, _ => 100000
  | f + 1, m => if c m = true then m + l else bhd c l f (m + 1)
theorem bhd_s (c : Nat → Bool) (l f m : Nat) : bhd c l (f + 1) m = if c m = true then m + l else bhd c l f (m + 1) := rfl
theorem bhd_skip (c : Nat → Bool) (l : Nat) : ∀ (i f m : Nat), (∀ t, m ≤ t → t < m + i → c t = false) → bhd c l (f + i) m = bhd c l f (m + i)
  | 0, _, _, _ => rfl
  | i + 1, f, m, h => by
    rw [← Nat.add_assoc, bhd_s, if_neg (by rw [h m (by omega) (by omega)]; decide), bhd_skip c l i f (m + 1) (fun t h1 h2 => h t (by omega) (by omega))]
    congr 1
    omega
theorem bhd_none {c : Nat → Bool} {l : Nat} : ∀ {f m : Nat}, (∀ t, m ≤ t → t < m + f → c t = false) → bhd c l f m = 100000
  | 0, _, _ => rfl
  | f + 1, m, h => by rw [bhd_s, if_neg (by rw [h m (by omega) (by omega)]; decide), bhd_none (fun t h1 h2 => h t (by omega) (by omega))]
/-- either a first minute, or none -/
theorem bhd_cases (c : Nat → Bool) (l : Nat) : ∀ (f m : Nat), (∃ t, m ≤ t ∧ t < m + f ∧ c t = true ∧ bhd c l f m = t + l ∧ ∀ u, m ≤ u → u < t → c u = false) ∨ (bhd c l f m = 100000 ∧ ∀ t, m ≤ t → t < m + f → c t = false)
  | 0, m => Or.inr ⟨rfl, fun t h1 h2 => by omega⟩
  | f + 1, m => by
    rw [bhd_s]
    by_cases h : c m = true
    · exact Or.inl ⟨m, by omega, by omega, h, by rw [if_pos h], fun u h1 h2 => by omega⟩
    · rw [if_neg h]
      have h' : c m = false := by simpa using h
      rcases bhd_cases c l f (m + 1) with ⟨t, h1, h2, h3, h4, h5⟩ | ⟨h1, h2⟩
      · refine Or.inl ⟨t, by omega, by omega, h3, h4, fun u hu1 hu2 => ?_⟩
        by_cases e : u = m
        · rw [e]; exact h'
        · exact h5 u (by omega) hu2
      · refine Or.inr ⟨h1, fun t ht1 ht2 => ?_⟩
        by_cases e : t = m
        · rw [e]; exact h'
        · exact h2 t (by omega) (by omega)
/-- ones in a set -/
def pcf (v : Nat) : Nat := (v % 2) + (v / 2 % 2) + (v / 4 % 2) + (v / 8 % 2) + (v / 16 % 2) + (v / 32 % 2) + (v / 64 % 2) + (v / 128 % 2)
theorem pcf_rem : ∀ v, v < 256 → ∀ k, k < 8 → v.testBit k = true → pcf (v - 2 ^ k) + 1 = pcf v ∧ 2 ^ k ≤ v := by decide +kernel
theorem tb_rem : ∀ v, v < 256 → ∀ k, k < 8 → v.testBit k = true → ∀ j, j < 8 → (v - 2 ^ k).testBit j = (v.testBit j && !decide (j = k)) := by decide +kernel
theorem tb_or : ∀ v, v < 256 → ∀ k, k < 8 → v.testBit k = false → v ||| 2 ^ k = v + 2 ^ k ∧ v + 2 ^ k < 256 ∧ (v + 2 ^ k).testBit k = true := by decide +kernel
theorem tb_orj : ∀ v, v < 256 → ∀ k, k < 8 → v.testBit k = false → ∀ j, j < 8 → (v + 2 ^ k).testBit j = (v.testBit j || decide (j = k)) := by decide +kernel
theorem tb_ext : ∀ {u v : Nat}, u < 256 → v < 256 → (∀ j, j < 8 → u.testBit j = v.testBit j) → u = v := by
  intro u v hu hv h
  apply Nat.eq_of_testBit_eq
  intro j
  by_cases hj : j < 8
  · exact h j hj
  · have e : ∀ w, w < 256 → w.testBit j = false := fun w hw => Nat.testBit_lt_two_pow (Nat.lt_of_lt_of_le hw (show 2 ^ 8 ≤ 2 ^ j from Nat.pow_le_pow_right (by omega) (by omega)))
    rw [e u hu, e v hv]
section SA
variable {n D mv : Nat} {bh : Nat → Nat → Nat} {pl : Nat → Nat} {op : Nat → Nat → Bool}
def tSt (mv : Nat) (bh : Nat → Nat → Nat) (pl : Nat → Nat) (op : Nat → Nat → Bool) (had k : Nat) (T : Nat → Nat) : Nat → Nat := if op k had = true then (fun j => if j = 2 * (had ||| 2 ^ k) + pl k then min (T j) (bh k (min (T (2 * had + pl k)) (T (2 * had + (1 - pl k)) + mv))) else T j) else T
def tRw (mv : Nat) (bh : Nat → Nat → Nat) (pl : Nat → Nat) (op : Nat → Nat → Bool) (had : Nat) : Nat → Nat → (Nat → Nat) → Nat → Nat
  | 0, _, T => T
  | f + 1, k, T => tRw mv bh pl op had f (k + 1) (tSt mv bh pl op had k T)
def tAl (n mv : Nat) (bh : Nat → Nat → Nat) (pl : Nat → Nat) (op : Nat → Nat → Bool) : Nat → Nat → (Nat → Nat) → Nat → Nat
  | 0, _, T => T
  | f + 1, h, T => tAl n mv bh pl op f (h + 1) (tRw mv bh pl op h n 0 T)
def tT0 (m i : Nat) : Nat → Nat := fun j => if j = i then m else 100000
def tFin (n mv : Nat) (bh : Nat → Nat → Nat) (pl : Nat → Nat) (op : Nat → Nat → Bool) (m i : Nat) : Nat → Nat := tAl n mv bh pl op (2 ^ n) 0 (tT0 m i)
/-- the things that the reading of a day gives -/
def okB (n D mv : Nat) (bh : Nat → Nat → Nat) (pl : Nat → Nat) (op : Nat → Nat → Bool) : Prop := n ≤ 8 ∧ D ≤ 480 ∧ mv ≤ 120 ∧ (∀ k m, k < n → bh k m ≤ D ∨ bh k m = 100000) ∧ (∀ k m m', k < n → m ≤ m' → bh k m ≤ bh k m') ∧ (∀ k m, k < n → bh k m ≤ D → m < bh k m) ∧ (∀ k, pl k ≤ 1) ∧ (∀ k h, op k h = true → h.testBit k = false)
theorem or_gt {h k : Nat} (e : h.testBit k = false) : h < h ||| 2 ^ k := by
  have h1 : h ≤ h ||| 2 ^ k := Nat.left_le_or
  rcases Nat.lt_or_eq_of_le h1 with q | q
  · exact q
  · exfalso
    have : (h ||| 2 ^ k).testBit k = true := by rw [Nat.testBit_or, Nat.testBit_two_pow]; simp
    rw [← q, e] at this
    exact absurd this (by decide)
theorem tSt_low (hb : okB n D mv bh pl op) {h k j : Nat} (T : Nat → Nat) (hj : j ≤ 2 * h + 1) : tSt mv bh pl op h k T j = T j := by
  unfold tSt
  by_cases c : op k h = true
  · rw [if_pos c]
    have := or_gt (hb.2.2.2.2.2.2.2 k h c)
    exact if_neg (by omega)
  · rw [if_neg c]
theorem tSt_le {h k : Nat} (T : Nat → Nat) (j : Nat) : tSt mv bh pl op h k T j ≤ T j := by
  unfold tSt
  split
  · show (if j = _ then _ else _) ≤ _
    split
    · exact Nat.min_le_left _ _
    · exact Nat.le_refl _
  · exact Nat.le_refl _
theorem tRw_low (hb : okB n D mv bh pl op) {h : Nat} : ∀ (f k : Nat) (T : Nat → Nat) (j : Nat), j ≤ 2 * h + 1 → tRw mv bh pl op h f k T j = T j
  | 0, _, _, _, _ => rfl
  | f + 1, k, T, j, hj => (tRw_low hb f (k + 1) _ j hj).trans (tSt_low hb T hj)
theorem tRw_le {h : Nat} : ∀ (f k : Nat) (T : Nat → Nat) (j : Nat), tRw mv bh pl op h f k T j ≤ T j
  | 0, _, _, _ => Nat.le_refl _
  | f + 1, k, T, j => Nat.le_trans (tRw_le f (k + 1) _ j) (tSt_le T j)
theorem tAl_low (hb : okB n D mv bh pl op) : ∀ (f h : Nat) (T : Nat → Nat) (j : Nat), j < 2 * h → tAl n mv bh pl op f h T j = T j
  | 0, _, _, _, _ => rfl
  | f + 1, h, T, j, hj => (tAl_low hb f (h + 1) _ j (by omega)).trans (tRw_low hb n 0 T j (by omega))
theorem tAl_le : ∀ (f h : Nat) (T : Nat → Nat) (j : Nat), tAl n mv bh pl op f h T j ≤ T j
  | 0, _, _, _ => Nat.le_refl _
  | f + 1, h, T, j => Nat.le_trans (tAl_le f (h + 1) _ j) (tRw_le n 0 T j)
theorem tRw_clo (hb : okB n D mv bh pl op) {h k : Nat} (hk : op k h = true) : ∀ (f k0 : Nat) (T : Nat → Nat), k0 ≤ k → k < k0 + f → tRw mv bh pl op h f k0 T (2 * (h ||| 2 ^ k) + pl k) ≤ bh k (min (T (2 * h + pl k)) (T (2 * h + (1 - pl k)) + mv))
  | 0, _, _, _, _ => by omega
  | f + 1, k0, T, h1, h2 => by
    show tRw mv bh pl op h f (k0 + 1) (tSt mv bh pl op h k0 T) _ ≤ _
    have hp := hb.2.2.2.2.2.2.1 k
    by_cases e : k0 = k
    · subst e
      refine Nat.le_trans (tRw_le f _ _ _) ?_
      unfold tSt
      rw [if_pos hk]
      show (if _ = _ then _ else _) ≤ _
      rw [if_pos rfl]
      exact Nat.min_le_right _ _
    · have := tRw_clo hb hk f (k0 + 1) (tSt mv bh pl op h k0 T) (by omega) (by omega)
      rwa [tSt_low hb T (by omega), tSt_low hb T (by omega)] at this
theorem tAl_clo (hb : okB n D mv bh pl op) {h k : Nat} (hk : op k h = true) (hkn : k < n) : ∀ (f h0 : Nat) (T : Nat → Nat), h0 ≤ h → h < h0 + f → tAl n mv bh pl op f h0 T (2 * (h ||| 2 ^ k) + pl k) ≤ bh k (min (tAl n mv bh pl op f h0 T (2 * h + pl k)) (tAl n mv bh pl op f h0 T (2 * h + (1 - pl k)) + mv))
  | 0, _, _, _, _ => by omega
  | f + 1, h0, T, h1, h2 => by
    show tAl n mv bh pl op f (h0 + 1) (tRw mv bh pl op h0 n 0 T) _ ≤ bh k (min (tAl n mv bh pl op f (h0 + 1) (tRw mv bh pl op h0 n 0 T) _) (tAl n mv bh pl op f (h0 + 1) (tRw mv bh pl op h0 n 0 T) _ + mv))
    have hp := hb.2.2.2.2.2.2.1 k
    by_cases e : h0 = h
    · subst e
      rw [tAl_low hb f (h0 + 1) _ (2 * h0 + pl k) (by omega), tAl_low hb f (h0 + 1) _ (2 * h0 + (1 - pl k)) (by omega), tRw_low hb n 0 T _ (by omega), tRw_low hb n 0 T _ (by omega)]
      exact Nat.le_trans (tAl_le f _ _ _) (tRw_clo hb hk n 0 T (by omega) (by omega))
    · exact tAl_clo hb hk hkn f (h0 + 1) _ (by omega) (by omega)
/-- where a value of the table is from -/
def frm (n mv : Nat) (bh : Nat → Nat → Nat) (pl : Nat → Nat) (op : Nat → Nat → Bool) (h9 : Nat) (T0 T : Nat → Nat) : Prop := ∀ S p, p ≤ 1 → T (2 * S + p) = T0 (2 * S + p) ∨ ∃ k h, k < n ∧ h < h9 ∧ op k h = true ∧ S = h ||| 2 ^ k ∧ pl k = p ∧ T (2 * S + p) = bh k (min (T (2 * h + pl k)) (T (2 * h + (1 - pl k)) + mv))
theorem tSt_frm (hb : okB n D mv bh pl op) {h k : Nat} {T0 T : Nat → Nat} (hk : k < n) (hf : frm n mv bh pl op (h + 1) T0 T) : frm n mv bh pl op (h + 1) T0 (tSt mv bh pl op h k T) := by
  intro S p hp
  by_cases c : op k h = true
  · have hp2 := hb.2.2.2.2.2.2.1 k
    by_cases e : 2 * S + p = 2 * (h ||| 2 ^ k) + pl k
    · have e1 : S = h ||| 2 ^ k := by omega
      have e2 : pl k = p := by omega
      have hv : tSt mv bh pl op h k T (2 * S + p) = min (T (2 * S + p)) (bh k (min (T (2 * h + pl k)) (T (2 * h + (1 - pl k)) + mv))) := by
        unfold tSt
        rw [if_pos c]
        exact if_pos e
      by_cases c2 : bh k (min (T (2 * h + pl k)) (T (2 * h + (1 - pl k)) + mv)) ≤ T (2 * S + p)
      · right
        refine ⟨k, h, hk, by omega, c, e1, e2, ?_⟩
        rw [hv, Nat.min_eq_right c2, tSt_low hb T (j := 2 * h + pl k) (by omega), tSt_low hb T (j := 2 * h + (1 - pl k)) (by omega)]
      · rw [hv, Nat.min_eq_left (by omega)]
        rcases hf S p hp with q | ⟨k', h', a1, a2, a3, a4, a5, a6⟩
        · exact Or.inl q
        · right
          have := hb.2.2.2.2.2.2.1 k'
          refine ⟨k', h', a1, a2, a3, a4, a5, ?_⟩
          rw [tSt_low hb T (by omega), tSt_low hb T (by omega)]
          exact a6
    · have hv : tSt mv bh pl op h k T (2 * S + p) = T (2 * S + p) := by
        unfold tSt
        rw [if_pos c]
        exact if_neg e
      rw [hv]
      rcases hf S p hp with q | ⟨k', h', a1, a2, a3, a4, a5, a6⟩
      · exact Or.inl q
      · right
        have := hb.2.2.2.2.2.2.1 k'
        refine ⟨k', h', a1, a2, a3, a4, a5, ?_⟩
        rw [tSt_low hb T (by omega), tSt_low hb T (by omega)]
        exact a6
  · have : tSt mv bh pl op h k T = T := by unfold tSt; rw [if_neg c]
    rw [this]
    exact hf S p hp
theorem tRw_frm (hb : okB n D mv bh pl op) {h : Nat} {T0 : Nat → Nat} : ∀ (f k : Nat) (T : Nat → Nat), k + f ≤ n → frm n mv bh pl op (h + 1) T0 T → frm n mv bh pl op (h + 1) T0 (tRw mv bh pl op h f k T)
  | 0, _, _, _, hf => hf
  | f + 1, k, T, hk, hf => tRw_frm hb f (k + 1) _ (by omega) (tSt_frm hb (by omega) hf)
theorem frm_m {h9 h8 : Nat} {T0 T : Nat → Nat} (hf : frm n mv bh pl op h9 T0 T) (h : h9 ≤ h8) : frm n mv bh pl op h8 T0 T := fun S p hp => by
  rcases hf S p hp with q | ⟨k', h', a1, a2, a3⟩
  · exact Or.inl q
  · exact Or.inr ⟨k', h', a1, by omega, a3⟩
theorem tAl_frm (hb : okB n D mv bh pl op) {T0 : Nat → Nat} : ∀ (f h : Nat) (T : Nat → Nat), frm n mv bh pl op h T0 T → frm n mv bh pl op (h + f) T0 (tAl n mv bh pl op f h T)
  | 0, _, _, hf => hf
  | f + 1, h, T, hf => by
    have := tAl_frm hb f (h + 1) _ (tRw_frm hb n 0 T (by omega) (frm_m hf (by omega)))
    rwa [show h + 1 + f = h + (f + 1) by omega] at this
/-- all that is needed of the finished table -/
def Tab (n D mv : Nat) (bh : Nat → Nat → Nat) (pl : Nat → Nat) (op : Nat → Nat → Bool) (m i : Nat) (T : Nat → Nat) : Prop :=
  T i = m ∧ T (1 - i) = 100000 ∧ (∀ k h, k < n → h < 2 ^ n → op k h = true → T (2 * (h ||| 2 ^ k) + pl k) ≤ bh k (min (T (2 * h + pl k)) (T (2 * h + (1 - pl k)) + mv))) ∧
  (∀ S p, p ≤ 1 → S ≠ 0 → T (2 * S + p) ≠ 100000 → ∃ k h, k < n ∧ h < 2 ^ n ∧ op k h = true ∧ S = h ||| 2 ^ k ∧ pl k = p ∧ T (2 * S + p) = bh k (min (T (2 * h + pl k)) (T (2 * h + (1 - pl k)) + mv))) ∧ (∀ j, T j ≤ D ∨ T j = 100000)
theorem tFin_tab (hb : okB n D mv bh pl op) {m i : Nat} (hi : i ≤ 1) (hm : m ≤ D) : Tab n D mv bh pl op m i (tFin n mv bh pl op m i) := by
  have hp := hb.2.2.2.2.2.2.1
  have low : ∀ j, j < 2 → tFin n mv bh pl op m i j = tT0 m i j := by
    intro j hj
    have h2 : (2 ^ n) = (2 ^ n - 1) + 1 := by have := Nat.two_pow_pos n; omega
    unfold tFin
    rw [h2]
    show tAl n mv bh pl op (2 ^ n - 1) (0 + 1) (tRw mv bh pl op 0 n 0 (tT0 m i)) j = _
    rw [tAl_low hb _ _ _ j (by omega), tRw_low hb n 0 _ j (by omega)]
  have fr := tAl_frm hb (2 ^ n) 0 (tT0 m i) (fun S p _ => Or.inl rfl)
  rw [Nat.zero_add] at fr
  refine ⟨?_, ?_, ?_, ?_, ?_⟩
  · rw [low i (by omega)]; exact if_pos rfl
  · rw [low (1 - i) (by omega)]; exact if_neg (by omega)
  · intro k h hk hh ho
    exact tAl_clo hb ho hk (2 ^ n) 0 (tT0 m i) (by omega) (by omega)
  · intro S p hp1 hS hne
    rcases fr S p hp1 with q | ⟨k, h, a1, a2, a3⟩
    · exfalso
      apply hne
      exact q.trans (if_neg (by omega))
    · exact ⟨k, h, a1, a2, a3⟩
  · intro j
    have := fr (j / 2) (j % 2) (by omega)
    rw [show 2 * (j / 2) + j % 2 = j by omega] at this
    rcases this with q | ⟨k, h, a1, a2, a3, a4, a5, a6⟩
    · by_cases e : j = i
      · left
        exact Nat.le_trans (Nat.le_of_eq (q.trans (if_pos e))) hm
      · right
        exact q.trans (if_neg e)
    · rcases hb.2.2.2.1 k (min (tFin n mv bh pl op m i (2 * h + pl k)) (tFin n mv bh pl op m i (2 * h + (1 - pl k)) + mv)) a1 with q | q
      · left; exact Nat.le_trans (Nat.le_of_eq a6) q
      · right; exact a6.trans q
end SA
