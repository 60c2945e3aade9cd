/- needs: 35.cspread -/
/-! the class's latest starts, and the order -/
def lvI (o : Option Nat) : Int32 := match o with
  | none => -1
  | some v => nI v
def thr (o : Option Nat) (t : Nat) : Prop := ∃ v, o = some v ∧ t ≤ v
def obd (o : Option Nat) : Prop := ∀ v, o = some v → v ≤ 480
def omx (o o' : Option Nat) : Option Nat := match o, o' with
  | none, x => x
  | x, none => x
  | some a, some b => some (max a b)
theorem m1_lt {v : Nat} (h : v < 2 ^ 31) : (-1 : Int32) < nI v := by
  rw [i32_lt, nI_toInt h]
  have e : (-1 : Int32).toInt = -1 := by decide
  omega
theorem m1_ne {v : Nat} (h : v < 2 ^ 31) : ¬ nI v = -1 := fun q => by
  have := m1_lt h
  rw [q] at this
  exact absurd this (by decide)
theorem omx_mx {o o' : Option Nat} (h : obd o) (h' : obd o') : mxI (lvI o) (lvI o') = lvI (omx o o') := by
  cases o with
  | none =>
    cases o' with
    | none => rfl
    | some b =>
      have := h' b rfl
      unfold mxI lvI omx
      exact if_pos (m1_lt (by omega))
  | some a =>
    have h1 := h a rfl
    cases o' with
    | none =>
      unfold mxI lvI omx
      refine if_neg (fun (q : nI a < -1) => ?_)
      have := m1_lt (show a < 2 ^ 31 by omega)
      rw [i32_lt] at q this
      omega
    | some b =>
      have h2 := h' b rfl
      exact mx_nI (by omega) (by omega)
theorem omx_bd {o o' : Option Nat} (h : obd o) (h' : obd o') : obd (omx o o') := by
  intro v hv
  cases o with
  | none => exact h' v hv
  | some a =>
    cases o' with
    | none => exact h v hv
    | some b =>
      have h1 := h a rfl
      have h2 := h' b rfl
      have : max a b = v := Option.some.inj hv
      omega
theorem omx_thr {o o' : Option Nat} (t : Nat) : thr (omx o o') t ↔ thr o t ∨ thr o' t := by
  cases o with
  | none => exact ⟨fun q => Or.inr q, fun q => q.elim (fun ⟨v, e, _⟩ => by cases e) id⟩
  | some a =>
    cases o' with
    | none => exact ⟨fun q => Or.inl q, fun q => q.elim id (fun ⟨v, e, _⟩ => by cases e)⟩
    | some b =>
      constructor
      · rintro ⟨v, e, h⟩
        have e2 : max a b = v := Option.some.inj e
        by_cases c : t ≤ a
        · exact Or.inl ⟨a, rfl, c⟩
        · exact Or.inr ⟨b, rfl, by omega⟩
      · rintro (⟨v, e, h⟩ | ⟨v, e, h⟩)
        · have e2 : a = v := Option.some.inj e
          exact ⟨max a b, rfl, by omega⟩
        · have e2 : b = v := Option.some.inj e
          exact ⟨max a b, rfl, by omega⟩
theorem thr_none (t : Nat) : ¬ thr none t := fun ⟨v, e, _⟩ => by cases e
theorem thr_some (v t : Nat) : thr (some v) t ↔ t ≤ v := ⟨fun ⟨w, e, h⟩ => by rw [Option.some.inj e]; exact h, fun h => ⟨v, rfl, h⟩⟩
/-- the last chance of a shot, by minute m -/
def LcO (P : pln) (st : Nat → Int32) (K : Nat → Bool) (E k m : Nat) (o : Option Nat) : Prop := obd o ∧ ∀ t, thr o t ↔ ∃ u, t ≤ u ∧ u < m ∧ sCan P st K E k u (ln P k) = true
def LcR (s : sg) (P : pln) (st : Nat → Int32) (K : Nat → Bool) (E n : Nat) : Prop := ∀ k, k < n → ∀ m, m ≤ E → ∃ o, s.1 (406 + k) m = lvI o ∧ LcO P st K E k (min (m + 1) E) o
theorem nxb {rest : Nat} (h : rest < 256) : nI rest ^^^ (-1 : Int32) = nI (2 ^ 32 - (rest + 1)) := by
  refine b_ext fun i hi => ?_
  rw [b_xor, bt_nI _ _ hi, bt_nI _ _ hi, b_m1 i hi, Nat.testBit_two_pow_sub_succ (by omega)]
  simp [hi]
/-- free, by what is left -/
def frC (P : pln) (k rest : Nat) : Bool := afb P k (2 ^ 32 - (rest + 1))
theorem rem_i : ∀ r, r < 256 → ∀ k, k < 8 → r.testBit k = true → nI r &&& (((1 : Int32) <<< (nI k &&& 31)) ^^^ (-1 : Int32)) = nI (r - 2 ^ k) := by decide +kernel
def osb (mv : Nat) (o : Option Nat) : Option Nat := match o with
  | none => none
  | some x => if mv ≤ x then some (x - mv) else none
theorem s256 {v : Nat} (h : v < 256) (x : Nat) : v - x < 256 := Nat.lt_of_le_of_lt (Nat.sub_le _ _) h
theorem pcf_z : ∀ v, v < 256 → pcf v = 0 → v = 0 := by decide +kernel
section CL
variable {N : Nat} {s : sg} {K : Nat → Bool} {st : Nat → Int32} {P : pln} {p a n D mv E H k m w goal : Nat}
theorem c_flc23 (W : Wp P n D mv) (hk : k < n) (hE : E ≤ 480) (hp : plA p) (ha : stA a) (hz : bz st) : ∀ (f i : Nat) (s : sg) (o : Option Nat), E - i < f → i ≤ E → CPl s p P n D mv → SAt s a st K → SvP s p a E K → LcO P st K E k i o → (∀ m, m < i → ∃ o, s.1 (406 + k) m = lvI o ∧ LcO P st K E k (min (m + 1) E) o) → ∃ s', lX6_findLastChances_23 N f 394 (406 + k) (p + 1 + 7 + k) (lvI o) (nI i) (mk s) = some (.inl (), mk s') ∧ (∀ m, m ≤ E → ∃ o, s'.1 (406 + k) m = lvI o ∧ LcO P st K E k (min (m + 1) E) o) ∧ Fr (fun x _ => x = 406 + k) s s' := by
  have hn8 := W.1
  have hw := W.2.2.2.2.2.2.2 k hk
  have hq := (plA_O hp).2.2.2.1 k (by omega)
  have hr := r406 k (by omega)
  have hp2 := plA_le hp
  have ha2 := stA_le ha
  intro f
  induction f with
  | zero => intro i s o hf; omega
  | succ f ih =>
    intro i s o hf hi hP hs hS ho hR
    show ∃ s', bX6_findLastChances_23 N (lX6_findLastChances_23 N f) 394 (406 + k) (p + 1 + 7 + k) (lvI o) (nI i) (mk s) = _ ∧ _
    unfold bX6_findLastChances_23
    simp (decide := true) only [Option.bind_some, cS_inl, cS_inr, gI_k, gR_k, pI_k, pR_k, cV_k, aI_k, tI_k, rZ_0, rZ_1, rZ_i, aR_24, aR_27, rf_3_6, rf_6_4, rf_6_9, rf_6_10, rf_6_11, rf_6_12, rf_6_5, rf_6_6, rf_6_7, Nat.reduceAdd, kc_394, kc_395, kc_396, kc_397, kc_398, kc_399, kc_400, kc_401, kc_402, kc_403, kc_404, kc_405, kc_406, kc_407, kc_408, kc_409, kc_410, kc_411, kc_412, kc_413, kc_414, kc_415, kc_416, kc_417, kc_418, kn_395, kn_396, kn_397, kn_398, kn_399, kn_400, kn_401, kn_402, kn_403, kn_404, kn_405, kn_406, kn_407, kn_408, kn_409, kn_410, kn_411, kn_412, kn_413, kn_414, kn_415, kn_417, kn_418, hS.2.2.1]
    by_cases c : E ≤ i
    · rw [if_pos (nI_le c (by omega))]
      have i1 : inB (nI E) 481 = true := inA_nI (by omega) (by omega)
      unfold bX6_findLastChances_61
      simp (decide := true) only [Option.bind_some, cS_inl, cS_inr, gI_k, gR_k, pI_k, pR_k, cV_k, aI_k, tI_k, rZ_0, rZ_1, rZ_i, aR_24, aR_27, rf_3_6, rf_6_4, rf_6_9, rf_6_10, rf_6_11, rf_6_12, rf_6_5, rf_6_6, rf_6_7, Nat.reduceAdd, kc_394, kc_395, kc_396, kc_397, kc_398, kc_399, kc_400, kc_401, kc_402, kc_403, kc_404, kc_405, kc_406, kc_407, kc_408, kc_409, kc_410, kc_411, kc_412, kc_413, kc_414, kc_415, kc_416, kc_417, kc_418, kn_395, kn_396, kn_397, kn_398, kn_399, kn_400, kn_401, kn_402, kn_403, kn_404, kn_405, kn_406, kn_407, kn_408, kn_409, kn_410, kn_411, kn_412, kn_413, kn_414, kn_415, kn_417, kn_418, hS.2.2.1, hr.1, hr.2, i1, nI_clamp (show E < 2 ^ 31 by omega)]
      refine ⟨_, rfl, fun m hm => ?_, Fr_sI rfl⟩
      by_cases e : m = E
      · subst e
        refine ⟨o, ?_, ?_⟩
        · rw [sI_1, if_pos ⟨rfl, rfl⟩]
        · rw [show min (m + 1) m = i by omega]; exact ho
      · obtain ⟨o2, q1, q2⟩ := hR m (by omega)
        exact ⟨o2, by rw [sI_1, if_neg (fun q => e q.2), q1], q2⟩
    · rw [if_neg (nI_ge (by omega) (by omega))]
      have i1 : inB (nI i) 481 = true := inA_nI (by omega) (by omega)
      have cw := c_would (N := N) (k := k) oo_416 (stA_O ha) hS.2.2.2 hs hz hq (hP.2.2.2 k hk) hw.1 hw.2.1 (show i < E by omega) hE
      simp (decide := true) only [Option.bind_some, cS_inl, cS_inr, gI_k, gR_k, pI_k, pR_k, cV_k, aI_k, tI_k, rZ_0, rZ_1, rZ_i, aR_24, aR_27, rf_3_6, rf_6_4, rf_6_9, rf_6_10, rf_6_11, rf_6_12, rf_6_5, rf_6_6, rf_6_7, Nat.reduceAdd, kc_394, kc_395, kc_396, kc_397, kc_398, kc_399, kc_400, kc_401, kc_402, kc_403, kc_404, kc_405, kc_406, kc_407, kc_408, kc_409, kc_410, kc_411, kc_412, kc_413, kc_414, kc_415, kc_416, kc_417, kc_418, kn_395, kn_396, kn_397, kn_398, kn_399, kn_400, kn_401, kn_402, kn_403, kn_404, kn_405, kn_406, kn_407, kn_408, kn_409, kn_410, kn_411, kn_412, kn_413, kn_414, kn_415, kn_417, kn_418, cw, sk_0]
      have key : ∀ o2, LcO P st K E k (i + 1) o2 → ∃ s', bX6_findLastChances_49 N (lX6_findLastChances_23 N f) 394 (406 + k) (p + 1 + 7 + k) (lvI o2) (nI i) (mk s) = some (.inl (), mk s') ∧ (∀ m, m ≤ E → ∃ o, s'.1 (406 + k) m = lvI o ∧ LcO P st K E k (min (m + 1) E) o) ∧ Fr (fun x _ => x = 406 + k) s s' := by
        intro o2 h2
        unfold bX6_findLastChances_49
        simp (decide := true) only [Option.bind_some, cS_inl, cS_inr, gI_k, gR_k, pI_k, pR_k, cV_k, aI_k, tI_k, rZ_0, rZ_1, rZ_i, aR_24, aR_27, rf_3_6, rf_6_4, rf_6_9, rf_6_10, rf_6_11, rf_6_12, rf_6_5, rf_6_6, rf_6_7, Nat.reduceAdd, kc_394, kc_395, kc_396, kc_397, kc_398, kc_399, kc_400, kc_401, kc_402, kc_403, kc_404, kc_405, kc_406, kc_407, kc_408, kc_409, kc_410, kc_411, kc_412, kc_413, kc_414, kc_415, kc_416, kc_417, kc_418, kn_395, kn_396, kn_397, kn_398, kn_399, kn_400, kn_401, kn_402, kn_403, kn_404, kn_405, kn_406, kn_407, kn_408, kn_409, kn_410, kn_411, kn_412, kn_413, kn_414, kn_415, kn_417, kn_418, hr.1, hr.2, i1, nI_clamp (show i < 2 ^ 31 by omega), nI_1]
        have f1 : Fr (fun x _ => x = 406 + k) s (sI s (406 + k) i (lvI o2)) := Fr_sI rfl
        obtain ⟨s', b1, b2, b3⟩ := ih (i + 1) (sI s (406 + k) i (lvI o2)) o2 (by omega) (by omega) (CPl_fr hP hn8 f1 (by intros; omega)) (SAt_fr hs f1 (by intros; omega)) (SvP_fr hS f1 (by intros; omega) (by intros; omega)) h2 (fun m hm => by
          by_cases e : m = i
          · subst e
            exact ⟨o2, by rw [sI_1, if_pos ⟨rfl, rfl⟩], by rw [show min (m + 1) E = m + 1 by omega]; exact h2⟩
          · obtain ⟨o3, q1, q2⟩ := hR m (by omega)
            exact ⟨o3, by rw [sI_1, if_neg (fun q => e q.2), q1], q2⟩)
        exact ⟨s', b1, b2, Fr_t f1 b3⟩
      cases hc : sCan P st K E k i (ln P k)
      · rw [if_pos rfl]
        refine key o ⟨ho.1, fun t => (ho.2 t).trans ⟨fun ⟨u, h1, h2, h3⟩ => ⟨u, h1, by omega, h3⟩, fun ⟨u, h1, h2, h3⟩ => ⟨u, h1, ?_, h3⟩⟩⟩
        have : u ≠ i := fun e => by rw [e, hc] at h3; cases h3
        omega
      · rw [if_neg (by decide)]
        refine key (some i) ⟨fun v hv => ?_, fun t => (thr_some i t).trans ⟨fun h => ⟨i, h, by omega, hc⟩, fun ⟨u, h1, h2, h3⟩ => by omega⟩⟩
        have : i = v := Option.some.inj hv
        omega
theorem c_flc (hN : 1000 ≤ N) (W : Wp P n D mv) (hk : k < n) (hE : E ≤ 480) (hp : plA p) (ha : stA a) (hz : bz st) (hP : CPl s p P n D mv) (hs : SAt s a st K) (hS : SvP s p a E K) : ∃ s', fX6_findLastChances N 394 (nI k) (mk s) = some (.inl (), mk s') ∧ (∀ m, m ≤ E → ∃ o, s'.1 (406 + k) m = lvI o ∧ LcO P st K E k (min (m + 1) E) o) ∧ Fr (fun x _ => x = 406 + k) s s' := by
  have hn8 := W.1
  have hpO := plA_O hp
  have i1 : inB (nI k) 8 = true := inA_nI (by omega) (by omega)
  unfold fX6_findLastChances bX6_findLastChances_0
  simp (decide := true) only [Option.bind_some, cS_inl, cS_inr, gI_k, gR_k, pI_k, pR_k, cV_k, aI_k, tI_k, rZ_0, rZ_1, rZ_i, aR_24, aR_27, rf_3_6, rf_6_4, rf_6_9, rf_6_10, rf_6_11, rf_6_12, rf_6_5, rf_6_6, rf_6_7, Nat.reduceAdd, kc_394, kc_395, kc_396, kc_397, kc_398, kc_399, kc_400, kc_401, kc_402, kc_403, kc_404, kc_405, kc_406, kc_407, kc_408, kc_409, kc_410, kc_411, kc_412, kc_413, kc_414, kc_415, kc_416, kc_417, kc_418, kn_395, kn_396, kn_397, kn_398, kn_399, kn_400, kn_401, kn_402, kn_403, kn_404, kn_405, kn_406, kn_407, kn_408, kn_409, kn_410, kn_411, kn_412, kn_413, kn_414, kn_415, kn_417, kn_418, hS.1, hpO.1, hpO.2.1, hpO.2.2.1, i1, nI_clamp (show k < 2 ^ 31 by omega)]
  exact c_flc23 W hk hE hp ha hz N 0 s none (by omega) (by omega) hP hs hS ⟨fun v hv => (by cases hv), fun t => ⟨fun q => absurd q (thr_none t), fun ⟨u, h1, h2, h3⟩ => by omega⟩⟩ (fun m hm => by omega)
/-- what the cells of the latest starts say: of a set that is left and a place -/
def LtO (s : sg) (P : pln) (st : Nat → Int32) (K : Nat → Bool) (E n mv goal rest q : Nat) : Prop := ∃ o, s.1 415 (2 * rest + q) = lvI o ∧ obd o ∧ ∀ t, (dfr n mv goal (bhk P st K E) (pls P) (frC P) rest q t).isSome = true ↔ thr o t
/-- the same, of the first k shots that may be next -/
def LtK (s : sg) (P : pln) (st : Nat → Int32) (K : Nat → Bool) (E n mv goal rest k q : Nat) : Prop := ∃ o, s.1 415 (2 * rest + q) = lvI o ∧ obd o ∧ ∀ t, (∃ j, j < k ∧ rest.testBit j = true ∧ frC P j rest = true ∧ bhk P st K E j (tmv mv q (pls P j) t) ≤ goal ∧ (dfr n mv goal (bhk P st K E) (pls P) (frC P) (rest - 2 ^ j) (pls P j) (bhk P st K E j (tmv mv q (pls P j) t))).isSome = true) ↔ thr o t
theorem bhk_le_iff (W : Wp P n D mv) (hk : k < n) (hE : E ≤ 480) {v t : Nat} (hv : v ≤ 480) : bhk P st K E k t ≤ v ↔ ∃ u, t ≤ u ∧ u + ln P k ≤ v ∧ u < E ∧ sCan P st K E k u (ln P k) = true := by
  have hl := (W.2.2.2.2.2.2.2 k hk).2.1.2.1
  rcases bhk_cases (st := st) (K := K) W hk hE t with ⟨u, h1, h2, h3, h4, h5⟩ | ⟨h1, h2⟩
  · constructor
    · intro h; exact ⟨u, h1, by omega, by omega, h3⟩
    · rintro ⟨u', g1, g2, g3, g4⟩
      have : u ≤ u' := Nat.le_of_not_lt fun q => by
        have := h5 u' g1 q
        rw [g4] at this
        cases this
      omega
  · constructor
    · intro h; omega
    · rintro ⟨u', g1, g2, g3, g4⟩
      have := h2 u' g1 g3
      rw [g4] at this
      cases this
theorem c_brb (hN : 1000 ≤ N) (W : Wp P n D mv) (hE : E ≤ 480) (hg : goal ≤ E) (hp : plA p) (hP : CPl s p P n D mv) (hS : SvP s p a E K) (hL : LcR s P st K E n) {rest : Nat} (hr : rest < 256) (hk : k < n) (hb : rest.testBit k = true) (hf : frC P k rest = true) (h1 : LtO s P st K E n mv goal (rest - 2 ^ k) (pls P k)) (h2 : ∀ q, q ≤ 1 → LtK s P st K E n mv goal rest k q) : ∃ s', fX6_beginsRestBy N 394 (nI k) (nI rest) (mk s) = some (.inl (), mk s') ∧ (∀ q, q ≤ 1 → LtK s' P st K E n mv goal rest (k + 1) q) ∧ Fr (fun x j => x = 415 ∧ (j = 2 * rest ∨ j = 2 * rest + 1)) s s' := by
  have hn8 := W.1
  have hpO := plA_O hp
  have hp2 := plA_le hp
  have hmv := W.2.2.2.2.2.1
  have hw := W.2.2.2.2.2.2.2 k hk
  have hl := hw.2.1.2
  have hq := hpO.2.2.2.1 k (by omega)
  have hpl := pls_le (P := P) k
  have i1 : inB (nI k) 8 = true := inA_nI (by omega) (by omega)
  have hrem := pcf_rem rest hr k (by omega) hb
  have q1 := ix2 (S := rest - 2 ^ k) (q := pls P k) (s256 hr _) hpl
  have h3 : s.1 (p + 1 + 7 + k) 2 = nI (ln P k) := (hP.2.2.2 k hk).2.2.1.trans hw.2.1.1
  obtain ⟨o, e0, b0, t0⟩ := h1
  have hOB := bhk_okB (st := st) (K := K) W hE 0 0 0
  -- nothing is added
  have none' : (∀ t q, q ≤ 1 → ¬ ((dfr n mv goal (bhk P st K E) (pls P) (frC P) (rest - 2 ^ k) (pls P k) (bhk P st K E k (tmv mv q (pls P k) t))).isSome = true)) → ∀ q, q ≤ 1 → LtK s P st K E n mv goal rest (k + 1) q := by
    intro hno q hq1
    obtain ⟨o2, e2, b2, t2⟩ := h2 q hq1
    refine ⟨o2, e2, b2, fun t => Iff.trans ⟨fun ⟨j, g1, g2, g3, g4, g5⟩ => ⟨j, ?_, g2, g3, g4, g5⟩, fun ⟨j, g1, g2⟩ => ⟨j, by omega, g2⟩⟩ (t2 t)⟩
    have : j ≠ k := fun e => by
      subst e
      exact hno t q hq1 g5
    omega
  unfold fX6_beginsRestBy bX6_beginsRestBy_0
  simp (decide := true) only [Option.bind_some, cS_inl, cS_inr, gI_k, gR_k, pI_k, pR_k, cV_k, aI_k, tI_k, rZ_0, rZ_1, rZ_i, aR_24, aR_27, rf_3_6, rf_6_4, rf_6_9, rf_6_10, rf_6_11, rf_6_12, rf_6_5, rf_6_6, rf_6_7, Nat.reduceAdd, kc_394, kc_395, kc_396, kc_397, kc_398, kc_399, kc_400, kc_401, kc_402, kc_403, kc_404, kc_405, kc_406, kc_407, kc_408, kc_409, kc_410, kc_411, kc_412, kc_413, kc_414, kc_415, kc_416, kc_417, kc_418, kn_395, kn_396, kn_397, kn_398, kn_399, kn_400, kn_401, kn_402, kn_403, kn_404, kn_405, kn_406, kn_407, kn_408, kn_409, kn_410, kn_411, kn_412, kn_413, kn_414, kn_415, kn_417, kn_418, hS.1, hpO.1, hpO.2.1, hpO.2.2.1, i1, nI_clamp (show k < 2 ^ 31 by omega), hq, c_place hq (hP.2.2.2 k hk), pls_sk, rem_i rest hr k (by omega) hb, ixm, q1.1, q1.2, e0, h3, hS.2.2.1]
  cases o with
  | none =>
    have hneg : lvI none - nI (ln P k) < 0 := by
      show (-1 : Int32) - nI (ln P k) < 0
      have : ∀ l, l < 31 → (-1 : Int32) - nI l < 0 := by decide +kernel
      exact this _ (by omega)
    rw [if_pos hneg]
    refine ⟨s, rfl, none' (fun t q _ h => thr_none _ ((t0 _).mp h)), Fr_r _ _⟩
  | some v =>
    have hv := b0 v rfl
    by_cases c1 : v < ln P k
    · have hneg : lvI (some v) - nI (ln P k) < 0 := by
        show nI v - nI (ln P k) < 0
        have : ∀ l, l < 31 → ∀ v, v < l → nI v - nI l < 0 := by decide +kernel
        exact this _ (by omega) _ c1
      rw [if_pos hneg]
      refine ⟨s, rfl, none' (fun t q _ h => ?_), Fr_r _ _⟩
      have h9 := (thr_some v _).mp ((t0 _).mp h)
      obtain ⟨u, g1, g2, g3, g4⟩ := (bhk_le_iff W hk hE hv).mp h9
      omega
    · have e1 : lvI (some v) - nI (ln P k) = nI (v - ln P k) := nI_sub (by omega)
      have hvg : v ≤ goal := by
        have := (t0 v).mpr ((thr_some v v).mpr (Nat.le_refl v))
        exact dfr_le hOB hg (s256 hr _) this
      rw [e1, if_neg (nI_pos (by omega)), if_pos (nI_le (by omega) (by omega))]
      have i2 : inB (nI (v - ln P k)) 481 = true := inA_nI (by omega) (by omega)
      have hr4 := r406 k (by omega)
      obtain ⟨o3, e3, b3, t3⟩ := hL k hk (v - ln P k) (by omega)
      simp (decide := true) only [Option.bind_some, cS_inl, cS_inr, gI_k, gR_k, pI_k, pR_k, cV_k, aI_k, tI_k, rZ_0, rZ_1, rZ_i, aR_24, aR_27, rf_3_6, rf_6_4, rf_6_9, rf_6_10, rf_6_11, rf_6_12, rf_6_5, rf_6_6, rf_6_7, Nat.reduceAdd, kc_394, kc_395, kc_396, kc_397, kc_398, kc_399, kc_400, kc_401, kc_402, kc_403, kc_404, kc_405, kc_406, kc_407, kc_408, kc_409, kc_410, kc_411, kc_412, kc_413, kc_414, kc_415, kc_416, kc_417, kc_418, kn_395, kn_396, kn_397, kn_398, kn_399, kn_400, kn_401, kn_402, kn_403, kn_404, kn_405, kn_406, kn_407, kn_408, kn_409, kn_410, kn_411, kn_412, kn_413, kn_414, kn_415, kn_417, kn_418, i1, nI_clamp (show k < 2 ^ 31 by omega), hr4.1, hr4.2, i2, nI_clamp (show v - ln P k < 2 ^ 31 by omega), e3]
      have y0 := ix2 (q := pls P k) hr hpl
      have y1 := ix2 (q := 1 - pls P k) hr (by omega)
      obtain ⟨oh, eh, bh, th⟩ := h2 (pls P k) hpl
      obtain ⟨ot, et, bt', tt⟩ := h2 (1 - pls P k) (by omega)
      -- the threshold of this shot
      have core : ∀ t, (bhk P st K E k t ≤ goal ∧ (dfr n mv goal (bhk P st K E) (pls P) (frC P) (rest - 2 ^ k) (pls P k) (bhk P st K E k t)).isSome = true) ↔ thr o3 t := by
        intro t
        rw [t0, thr_some, t3, bhk_le_iff W hk hE hv]
        constructor
        · rintro ⟨_, u, g1, g2, g3, g4⟩
          exact ⟨u, g1, by omega, g4⟩
        · rintro ⟨u, g1, g2, g4⟩
          have hbd : u + ln P k ≤ v := by omega
          have ex : ∃ u, t ≤ u ∧ u + ln P k ≤ v ∧ u < E ∧ sCan P st K E k u (ln P k) = true := ⟨u, g1, hbd, by omega, g4⟩
          exact ⟨Nat.le_trans ((bhk_le_iff W hk hE hv).mpr ex) hvg, ex⟩
      have b4 : obd (osb mv o3) := by
        intro x hx
        cases o3 with
        | none => cases hx
        | some y =>
          have := b3 y rfl
          by_cases c : mv ≤ y
          · have e : osb mv (some y) = some (y - mv) := if_pos c
            rw [e] at hx
            have := Option.some.inj hx
            omega
          · have e : osb mv (some y) = none := if_neg c
            rw [e] at hx
            cases hx
      have t4 : ∀ t, thr (osb mv o3) t ↔ thr o3 (t + mv) := by
        intro t
        cases o3 with
        | none => exact ⟨fun q => absurd q (thr_none _), fun q => absurd q (thr_none _)⟩
        | some y =>
          rw [thr_some]
          by_cases c : mv ≤ y
          · have e : osb mv (some y) = some (y - mv) := if_pos c
            rw [e, thr_some]
            omega
          · have e : osb mv (some y) = none := if_neg c
            rw [e]
            exact ⟨fun q => absurd q (thr_none _), fun q => by omega⟩
      have m4 : mxI (-1) (lvI o3 - nI mv) = lvI (osb mv o3) := by
        cases o3 with
        | none =>
          have : ∀ l, l < 121 → mxI (-1) ((-1 : Int32) - nI l) = -1 := by decide +kernel
          exact this mv (by omega)
        | some y =>
          have hy := b3 y rfl
          by_cases c : mv ≤ y
          · have e : osb mv (some y) = some (y - mv) := if_pos c
            rw [e]
            show mxI (-1) (nI y - nI mv) = nI (y - mv)
            rw [nI_sub c]
            unfold mxI
            exact if_pos (m1_lt (by omega))
          · have e : osb mv (some y) = none := if_neg c
            rw [e]
            have : ∀ l, l < 121 → ∀ y, y < l → mxI (-1) (nI y - nI l) = -1 := by decide +kernel
            exact this mv (by omega) y (by omega)
      have fin : ∀ (s0 s1 : Int32), s0 + s1 = nI (2 * rest + (1 - pls P k)) → ∃ s', bX6_beginsRestBy_87 N 394 (lvI o3) (nI (2 * rest + pls P k)) s0 s1 (mk s) = some (.inl (), mk s') ∧ (∀ q, q ≤ 1 → LtK s' P st K E n mv goal rest (k + 1) q) ∧ Fr (fun x j => x = 415 ∧ (j = 2 * rest ∨ j = 2 * rest + 1)) s s' := by
        intro s0 s1 hs01
        unfold bX6_beginsRestBy_87
        simp (decide := true) only [Option.bind_some, cS_inl, cS_inr, gI_k, gR_k, pI_k, pR_k, cV_k, aI_k, tI_k, rZ_0, rZ_1, rZ_i, aR_24, aR_27, rf_3_6, rf_6_4, rf_6_9, rf_6_10, rf_6_11, rf_6_12, rf_6_5, rf_6_6, rf_6_7, Nat.reduceAdd, kc_394, kc_395, kc_396, kc_397, kc_398, kc_399, kc_400, kc_401, kc_402, kc_403, kc_404, kc_405, kc_406, kc_407, kc_408, kc_409, kc_410, kc_411, kc_412, kc_413, kc_414, kc_415, kc_416, kc_417, kc_418, kn_395, kn_396, kn_397, kn_398, kn_399, kn_400, kn_401, kn_402, kn_403, kn_404, kn_405, kn_406, kn_407, kn_408, kn_409, kn_410, kn_411, kn_412, kn_413, kn_414, kn_415, kn_417, kn_418, y0.1, y0.2, y1.1, y1.2, eh, hs01, hpO.1, hS.1, sI_r, sI_c, hP.2.1, show ¬ p = 415 by omega, false_and, true_and, if_false, show ¬ (2 * rest + (1 - pls P k) = 2 * rest + pls P k) by omega, et, m4, omx_mx bh b3, omx_mx bt' b4]
        have f1 : Fr (fun x j => x = 415 ∧ (j = 2 * rest ∨ j = 2 * rest + 1)) s (sI (sI s 415 (2 * rest + pls P k) (lvI (omx oh o3))) 415 (2 * rest + (1 - pls P k)) (lvI (omx ot (osb mv o3)))) := Fr_t (Fr_sI (by omega)) (Fr_sI (by omega))
        refine ⟨_, rfl, fun q hq => ?_, f1⟩
        have split : ∀ (A : Nat → Prop) , (∃ j, j < k + 1 ∧ A j) ↔ (∃ j, j < k ∧ A j) ∨ A k := fun A => ⟨fun ⟨j, g1, g2⟩ => by
          by_cases e : j = k
          · subst e; exact Or.inr g2
          · exact Or.inl ⟨j, by omega, g2⟩, fun g => g.elim (fun ⟨j, g1, g2⟩ => ⟨j, by omega, g2⟩) (fun g => ⟨k, by omega, g⟩)⟩
        by_cases e : q = pls P k
        · subst e
          refine ⟨omx oh o3, ?_, omx_bd bh b3, fun t => ?_⟩
          · rw [sI_1, if_neg (by omega), sI_1, if_pos ⟨rfl, rfl⟩]
          · rw [split, omx_thr, th, ← core t]
            have et2 : tmv mv (pls P k) (pls P k) t = t := if_pos rfl
            rw [et2]
            simp only [hb, hf, true_and]
        · have e' : q = 1 - pls P k := by omega
          subst e'
          refine ⟨omx ot (osb mv o3), ?_, omx_bd bt' b4, fun t => ?_⟩
          · rw [sI_1, if_pos ⟨rfl, rfl⟩]
          · rw [split, omx_thr, tt, t4, ← core (t + mv)]
            have et2 : tmv mv (1 - pls P k) (pls P k) t = t + mv := if_neg (by omega)
            rw [et2]
            simp only [hb, hf, true_and]
      have hs01 : ∀ x : Nat, nI rest * 2 + nI x = nI (2 * rest + x) := ixm rest
      rcases (show pls P k = 0 ∨ pls P k = 1 by omega) with e | e
      · rw [e] at fin ⊢
        rw [if_neg (by decide)]
        exact fin _ _ (hs01 1)
      · rw [e] at fin ⊢
        rw [if_pos (by decide)]
        exact fin _ _ (hs01 0)
theorem c_late88 (hN : 1000 ≤ N) (W : Wp P n D mv) (hE : E ≤ 480) (hg : goal ≤ E) (hp : plA p) {k44 : Nat → Int32 → Int32 → Int32 → mm_C → mR Int32} {v1 v2 : Int32} {rest : Nat} (hr : rest < 256) : ∀ (f k : Nat) (s : sg), n - k < f → k ≤ n → CPl s p P n D mv → SvP s p a E K → LcR s P st K E n → (∀ j q, j < n → q ≤ 1 → rest.testBit j = true → LtO s P st K E n mv goal (rest - 2 ^ j) q) → (∀ q, q ≤ 1 → LtK s P st K E n mv goal rest k q) → ∃ s', lX6_latestFor_88 N k44 f 394 v1 v2 (nI rest) (nI k) (mk s) = k44 394 v1 v2 (nI (rest + 1)) (mk s') ∧ (∀ q, q ≤ 1 → LtK s' P st K E n mv goal rest n q) ∧ Fr (fun x j => x = 415 ∧ (j = 2 * rest ∨ j = 2 * rest + 1)) s s' := by
  have hn8 := W.1
  have hpO := plA_O hp
  have hp2 := plA_le hp
  intro f
  induction f with
  | zero => intro k s hf; omega
  | succ f ih =>
    intro k s hf hk hP hS hL h1 h2
    show ∃ s', bX6_latestFor_88 N k44 (lX6_latestFor_88 N k44 f) 394 v1 v2 (nI rest) (nI k) (mk s) = _ ∧ _
    unfold bX6_latestFor_88
    simp (decide := true) only [Option.bind_some, cS_inl, cS_inr, gI_k, gR_k, pI_k, pR_k, cV_k, aI_k, tI_k, rZ_0, rZ_1, rZ_i, aR_24, aR_27, rf_3_6, rf_6_4, rf_6_9, rf_6_10, rf_6_11, rf_6_12, rf_6_5, rf_6_6, rf_6_7, Nat.reduceAdd, kc_394, kc_395, kc_396, kc_397, kc_398, kc_399, kc_400, kc_401, kc_402, kc_403, kc_404, kc_405, kc_406, kc_407, kc_408, kc_409, kc_410, kc_411, kc_412, kc_413, kc_414, kc_415, kc_416, kc_417, kc_418, kn_395, kn_396, kn_397, kn_398, kn_399, kn_400, kn_401, kn_402, kn_403, kn_404, kn_405, kn_406, kn_407, kn_408, kn_409, kn_410, kn_411, kn_412, kn_413, kn_414, kn_415, kn_417, kn_418, hS.1, hpO.1, hP.2.2.1]
    by_cases c1 : n ≤ k
    · rw [if_pos (nI_le c1 (by omega))]
      unfold bX6_latestFor_137
      rw [nI_1]
      have : k = n := by omega
      subst this
      exact ⟨s, rfl, h2, Fr_r _ _⟩
    · rw [if_neg (nI_ge (by omega) (by omega))]
      have skip : (¬ (rest.testBit k = true ∧ frC P k rest = true)) → ∃ s', bX6_latestFor_131 N k44 (lX6_latestFor_88 N k44 f) 394 v1 v2 (nI rest) (nI k) (mk s) = k44 394 v1 v2 (nI (rest + 1)) (mk s') ∧ (∀ q, q ≤ 1 → LtK s' P st K E n mv goal rest n q) ∧ Fr (fun x j => x = 415 ∧ (j = 2 * rest ∨ j = 2 * rest + 1)) s s' := by
        intro hno
        unfold bX6_latestFor_131
        rw [nI_1]
        refine ih (k + 1) s (by omega) (by omega) hP hS hL h1 (fun q hq => ?_)
        obtain ⟨o, e, b, t⟩ := h2 q hq
        refine ⟨o, e, b, fun u => Iff.trans ⟨fun ⟨j, g1, g2, g3, g4⟩ => ⟨j, ?_, g2, g3, g4⟩, fun ⟨j, g1, g2⟩ => ⟨j, by omega, g2⟩⟩ (t u)⟩
        have : j ≠ k := fun e => by subst e; exact hno ⟨g2, g3⟩
        omega
      by_cases c2 : rest.testBit k = true
      · rw [if_neg (by rw [bit_nz _ _ (by omega), c2]; decide), nxb hr]
        simp (decide := true) only [Option.bind_some, cS_inl, cS_inr, gI_k, gR_k, pI_k, pR_k, cV_k, aI_k, tI_k, rZ_0, rZ_1, rZ_i, aR_24, aR_27, rf_3_6, rf_6_4, rf_6_9, rf_6_10, rf_6_11, rf_6_12, rf_6_5, rf_6_6, rf_6_7, Nat.reduceAdd, kc_394, kc_395, kc_396, kc_397, kc_398, kc_399, kc_400, kc_401, kc_402, kc_403, kc_404, kc_405, kc_406, kc_407, kc_408, kc_409, kc_410, kc_411, kc_412, kc_413, kc_414, kc_415, kc_416, kc_417, kc_418, kn_395, kn_396, kn_397, kn_398, kn_399, kn_400, kn_401, kn_402, kn_403, kn_404, kn_405, kn_406, kn_407, kn_408, kn_409, kn_410, kn_411, kn_412, kn_413, kn_414, kn_415, kn_417, kn_418, c_isFree W hp hP hS.1 (show k < n by omega) (2 ^ 32 - (rest + 1)), sk_0]
        cases c3 : afb P k (2 ^ 32 - (rest + 1))
        · rw [if_pos rfl]
          exact skip (fun q => by have := q.2; unfold frC at this; rw [c3] at this; cases this)
        · rw [if_neg (by decide)]
          have hrem := pcf_rem rest hr k (by omega) c2
          have hpos := Nat.two_pow_pos k
          obtain ⟨s1, a1, a2, a3⟩ := c_brb (N := N) hN W hE hg hp hP hS hL hr (show k < n by omega) c2 c3 (h1 k (pls P k) (by omega) (pls_le k) c2) h2
          simp (decide := true) only [Option.bind_some, cS_inl, cS_inr, gI_k, gR_k, pI_k, pR_k, cV_k, aI_k, tI_k, rZ_0, rZ_1, rZ_i, aR_24, aR_27, rf_3_6, rf_6_4, rf_6_9, rf_6_10, rf_6_11, rf_6_12, rf_6_5, rf_6_6, rf_6_7, Nat.reduceAdd, kc_394, kc_395, kc_396, kc_397, kc_398, kc_399, kc_400, kc_401, kc_402, kc_403, kc_404, kc_405, kc_406, kc_407, kc_408, kc_409, kc_410, kc_411, kc_412, kc_413, kc_414, kc_415, kc_416, kc_417, kc_418, kn_395, kn_396, kn_397, kn_398, kn_399, kn_400, kn_401, kn_402, kn_403, kn_404, kn_405, kn_406, kn_407, kn_408, kn_409, kn_410, kn_411, kn_412, kn_413, kn_414, kn_415, kn_417, kn_418, a1]
          unfold bX6_latestFor_131
          rw [nI_1]
          obtain ⟨s', b1, b2, b3⟩ := ih (k + 1) s1 (by omega) (by omega) (CPl_fr hP hn8 a3 (by intros; omega)) (SvP_fr hS a3 (by intros; omega) (by intros; omega)) (fun k' hk' m hm => by rw [a3.1 _ _ (by omega)]; exact hL k' hk' m hm) (fun j q hj hq hb => by
            obtain ⟨o, e, b⟩ := h1 j q hj hq hb
            have := pcf_rem rest hr j (by omega) hb
            have := Nat.two_pow_pos j
            exact ⟨o, by rw [a3.1 _ _ (by omega), e], b⟩) a2
          exact ⟨s', b1, b2, Fr_t a3 b3⟩
      · rw [if_pos (by rw [bit_nz _ _ (by omega)]; simpa using c2)]
        exact skip (fun q => c2 q.1)
theorem anN_sub {rest all k : Nat} (hr : rest < 256) (h : anN rest all = 0) (hk : k < 8) (hb : rest.testBit k = true) : anN (rest - 2 ^ k) all = 0 := by
  rw [anN_0 (s256 hr _)]
  intro j hj q
  rw [tb_rem rest hr k hk hb j hj] at q
  simp only [Bool.and_eq_true] at q
  exact (anN_0 hr).mp h j hj q.1
theorem c_late44 (hN : 1000 ≤ N) (W : Wp P n D mv) (hE : E ≤ 480) (hg : goal ≤ E) (hp : plA p) {all q0 : Nat} (hall : all < 256) (hq0 : q0 ≤ 1) : ∀ (f i : Nat) (s : sg), 256 - i < f → 1 ≤ i → i ≤ 256 → CPl s p P n D mv → SvP s p a E K → LcR s P st K E n → (∀ rest q, rest < i → q ≤ 1 → anN rest all = 0 → LtO s P st K E n mv goal rest q) → ∃ s' o, lX6_latestFor_44 N f 394 (nI all) (nI q0) (nI i) (mk s) = some (.inl (lvI o), mk s') ∧ s'.1 415 (2 * all + q0) = lvI o ∧ (∀ rest q, rest < 256 → q ≤ 1 → anN rest all = 0 → LtO s' P st K E n mv goal rest q) ∧ Fr (fun x _ => x = 415) s s' := by
  have hn8 := W.1
  have hpO := plA_O hp
  have hp2 := plA_le hp
  intro f
  induction f with
  | zero => intro i s hf; omega
  | succ f ih =>
    intro i s hf hi1 hi hP hS hL h1
    show ∃ s' o, bX6_latestFor_44 N (lX6_latestFor_44 N f) 394 (nI all) (nI q0) (nI i) (mk s) = _ ∧ _
    unfold bX6_latestFor_44
    by_cases c1 : 256 ≤ i
    · rw [if_pos (show (256 : Int32) ≤ nI i from nI_le (a := 256) c1 (by omega))]
      unfold bX6_latestFor_143
      have y := ix2 hall hq0
      have hself : anN all all = 0 := (anN_0 hall).mpr (fun j _ h => h)
      obtain ⟨o, e, b, t⟩ := h1 all q0 (by omega) hq0 hself
      simp (decide := true) only [Option.bind_some, cS_inl, cS_inr, gI_k, gR_k, pI_k, pR_k, cV_k, aI_k, tI_k, rZ_0, rZ_1, rZ_i, aR_24, aR_27, rf_3_6, rf_6_4, rf_6_9, rf_6_10, rf_6_11, rf_6_12, rf_6_5, rf_6_6, rf_6_7, Nat.reduceAdd, kc_394, kc_395, kc_396, kc_397, kc_398, kc_399, kc_400, kc_401, kc_402, kc_403, kc_404, kc_405, kc_406, kc_407, kc_408, kc_409, kc_410, kc_411, kc_412, kc_413, kc_414, kc_415, kc_416, kc_417, kc_418, kn_395, kn_396, kn_397, kn_398, kn_399, kn_400, kn_401, kn_402, kn_403, kn_404, kn_405, kn_406, kn_407, kn_408, kn_409, kn_410, kn_411, kn_412, kn_413, kn_414, kn_415, kn_417, kn_418, ixm, y.1, y.2, e]
      exact ⟨s, o, rfl, e, fun rest q g1 g2 g3 => h1 rest q (by omega) g2 g3, Fr_r _ _⟩
    · rw [if_neg (show ¬ (256 : Int32) ≤ nI i from nI_ge (b := 256) (by omega) (by omega)), anN_i (show i < 256 by omega)]
      by_cases c2 : anN i all = 0
      · rw [c2, if_neg (fun q => q rfl)]
        have y0 := ix2 (S := i) (q := 0) (by omega) (by omega)
        have y1 := ix2 (S := i) (q := 1) (by omega) (by omega)
        have x0 := ixm i 0
        have x1 := ixm i 1
        rw [nI0] at x0
        rw [show nI 1 = (1 : Int32) from rfl] at x1
        simp (decide := true) only [Option.bind_some, cS_inl, cS_inr, gI_k, gR_k, pI_k, pR_k, cV_k, aI_k, tI_k, rZ_0, rZ_1, rZ_i, aR_24, aR_27, rf_3_6, rf_6_4, rf_6_9, rf_6_10, rf_6_11, rf_6_12, rf_6_5, rf_6_6, rf_6_7, Nat.reduceAdd, kc_394, kc_395, kc_396, kc_397, kc_398, kc_399, kc_400, kc_401, kc_402, kc_403, kc_404, kc_405, kc_406, kc_407, kc_408, kc_409, kc_410, kc_411, kc_412, kc_413, kc_414, kc_415, kc_416, kc_417, kc_418, kn_395, kn_396, kn_397, kn_398, kn_399, kn_400, kn_401, kn_402, kn_403, kn_404, kn_405, kn_406, kn_407, kn_408, kn_409, kn_410, kn_411, kn_412, kn_413, kn_414, kn_415, kn_417, kn_418, x0, x1, y0.1, y0.2, y1.1, y1.2]
        have f1 : Fr (fun x j => x = 415 ∧ (j = 2 * i ∨ j = 2 * i + 1)) s (sI (sI s 415 (2 * i + 0) (-1)) 415 (2 * i + 1) (-1)) := Fr_t (Fr_sI (by omega)) (Fr_sI (by omega))
        have low : ∀ s2, Fr (fun x j => x = 415 ∧ (j = 2 * i ∨ j = 2 * i + 1)) s s2 → ∀ rest q, rest < i → q ≤ 1 → anN rest all = 0 → LtO s2 P st K E n mv goal rest q := fun s2 fr rest q g1 g2 g3 => by
          obtain ⟨o, e, b⟩ := h1 rest q g1 g2 g3
          exact ⟨o, by rw [fr.1 _ _ (by omega), e], b⟩
        obtain ⟨s2, b1, b2, b3⟩ := c_late88 (N := N) (st := st) (k44 := lX6_latestFor_44 N f) (v1 := nI all) (v2 := nI q0) hN W hE hg hp (show i < 256 by omega) N 0 _ (by omega) (by omega) (CPl_fr hP hn8 f1 (by intros; omega)) (SvP_fr hS f1 (by intros; omega) (by intros; omega)) (fun k' hk' m hm => by rw [f1.1 _ _ (by omega)]; exact hL k' hk' m hm) (fun j q hj hq hb => by
          have := pcf_rem i (by omega) j (by omega) hb
          have := Nat.two_pow_pos j
          exact low _ f1 (i - 2 ^ j) q (by omega) hq (anN_sub (by omega) c2 (by omega) hb)) (fun q hq => ⟨none, by
          rcases (show q = 0 ∨ q = 1 by omega) with rfl | rfl
          · rw [sI_1, if_neg (by omega), sI_1, if_pos ⟨rfl, rfl⟩]; rfl
          · rw [sI_1, if_pos ⟨rfl, rfl⟩]; rfl, fun v hv => (by cases hv), fun t => ⟨fun ⟨j, g, _⟩ => by omega, fun g => absurd g (thr_none t)⟩⟩)
        have f2 := Fr_t f1 b3
        have hP2 := CPl_fr hP hn8 f2 (by intros; omega)
        have hS2 := SvP_fr hS f2 (by intros; omega) (by intros; omega)
        obtain ⟨s3, o, d1, d2, d3, d4⟩ := ih (i + 1) s2 (by omega) (by omega) (by omega) hP2 hS2 (fun k' hk' m hm => by rw [f2.1 _ _ (by omega)]; exact hL k' hk' m hm) (fun rest q g1 g2 g3 => by
          by_cases e : rest = i
          · subst e
            obtain ⟨o, e, b, t⟩ := b2 q g2
            refine ⟨o, e, b, fun u => ?_⟩
            rw [dfr_is hn8 (by omega) (by omega)]
            exact t u
          · exact low _ f2 rest q (by omega) g2 g3)
        exact ⟨s3, o, b1.trans d1, d2, d3, Fr_t (Fr_m f2 (fun x j g => g.1)) d4⟩
      · rw [if_pos (fun q => c2 (by have := (nI_eq (b := 0) (by have := anN_le i all; omega) (by omega)).mp q; exact this))]
        unfold bX6_latestFor_137
        rw [nI_1]
        exact ih (i + 1) s (by omega) (by omega) (by omega) hP hS hL (fun rest q g1 g2 g3 => h1 rest q (by
          have : rest ≠ i := fun e => c2 (by rw [← e]; exact g3)
          omega) g2 g3)
theorem c_late3 (hN : 1000 ≤ N) (W : Wp P n D mv) (hE : E ≤ 480) (hg : goal ≤ E) (hp : plA p) (ha : stA a) (hz : bz st) {all q0 : Nat} (hall : all < 256) (hq0 : q0 ≤ 1) : ∀ (f i : Nat) (s : sg), n - i < f → i ≤ n → CPl s p P n D mv → SAt s a st K → SvP s p a E K → LcR s P st K E i → ∃ s' o, lX6_latestFor_3 N f 394 (nI all) (nI q0) (nI goal) (nI i) (mk s) = some (.inl (lvI o), mk s') ∧ s'.1 415 (2 * all + q0) = lvI o ∧ (∀ rest q, rest < 256 → q ≤ 1 → anN rest all = 0 → LtO s' P st K E n mv goal rest q) ∧ Fr (fun x _ => x = 415 ∨ (406 ≤ x ∧ x ≤ 413)) s s' := by
  have hn8 := W.1
  have hp2 := plA_le hp
  have ha2 := stA_le ha
  have hpO := plA_O hp
  intro f
  induction f with
  | zero => intro i s hf; omega
  | succ f ih =>
    intro i s hf hi hP hs hS hR
    show ∃ s' o, bX6_latestFor_3 N (lX6_latestFor_3 N f) 394 (nI all) (nI q0) (nI goal) (nI i) (mk s) = _ ∧ _
    unfold bX6_latestFor_3
    simp (decide := true) only [Option.bind_some, cS_inl, cS_inr, gI_k, gR_k, pI_k, pR_k, cV_k, aI_k, tI_k, rZ_0, rZ_1, rZ_i, aR_24, aR_27, rf_3_6, rf_6_4, rf_6_9, rf_6_10, rf_6_11, rf_6_12, rf_6_5, rf_6_6, rf_6_7, Nat.reduceAdd, kc_394, kc_395, kc_396, kc_397, kc_398, kc_399, kc_400, kc_401, kc_402, kc_403, kc_404, kc_405, kc_406, kc_407, kc_408, kc_409, kc_410, kc_411, kc_412, kc_413, kc_414, kc_415, kc_416, kc_417, kc_418, kn_395, kn_396, kn_397, kn_398, kn_399, kn_400, kn_401, kn_402, kn_403, kn_404, kn_405, kn_406, kn_407, kn_408, kn_409, kn_410, kn_411, kn_412, kn_413, kn_414, kn_415, kn_417, kn_418, hS.1, hpO.1, hP.2.2.1]
    by_cases c : n ≤ i
    · rw [if_pos (nI_le c (by omega))]
      unfold bX6_latestFor_27
      simp (decide := true) only [Option.bind_some, cS_inl, cS_inr, gI_k, gR_k, pI_k, pR_k, cV_k, aI_k, tI_k, rZ_0, rZ_1, rZ_i, aR_24, aR_27, rf_3_6, rf_6_4, rf_6_9, rf_6_10, rf_6_11, rf_6_12, rf_6_5, rf_6_6, rf_6_7, Nat.reduceAdd, kc_394, kc_395, kc_396, kc_397, kc_398, kc_399, kc_400, kc_401, kc_402, kc_403, kc_404, kc_405, kc_406, kc_407, kc_408, kc_409, kc_410, kc_411, kc_412, kc_413, kc_414, kc_415, kc_416, kc_417, kc_418, kn_395, kn_396, kn_397, kn_398, kn_399, kn_400, kn_401, kn_402, kn_403, kn_404, kn_405, kn_406, kn_407, kn_408, kn_409, kn_410, kn_411, kn_412, kn_413, kn_414, kn_415, kn_417, kn_418, nc_0, nc_1]
      have f1 : Fr (fun x _ => x = 415 ∨ (406 ≤ x ∧ x ≤ 413)) s (sI (sI s 415 0 (nI goal)) 415 1 (nI goal)) := Fr_t (Fr_sI (by omega)) (Fr_sI (by omega))
      have f1' : Fr (fun x _ => x = 415) s (sI (sI s 415 0 (nI goal)) 415 1 (nI goal)) := Fr_t (Fr_sI (by omega)) (Fr_sI (by omega))
      have : i = n := by omega
      subst this
      obtain ⟨s', o, b1, b2, b3, b4⟩ := c_late44 (N := N) hN W hE hg hp hall hq0 N 1 _ (by omega) (by omega) (by omega) (CPl_fr hP hn8 f1 (by intros; omega)) (SvP_fr hS f1 (by intros; omega) (by intros; omega)) (fun k' hk' m hm => by rw [f1'.1 _ _ (by omega)]; exact hR k' hk' m hm) (fun rest q g1 g2 g3 => by
        have e : rest = 0 := by omega
        subst e
        refine ⟨some goal, ?_, fun v hv => by
          have := Option.some.inj hv
          omega, fun t => ?_⟩
        · rcases (show q = 0 ∨ q = 1 by omega) with rfl | rfl
          · rw [sI_1, if_neg (by omega), sI_1, if_pos ⟨rfl, rfl⟩]; rfl
          · rw [sI_1, if_pos ⟨rfl, rfl⟩]; rfl
        · rw [dfr_0, thr_some]
          by_cases c : t ≤ goal
          · simp [c]
          · simp [c])
      exact ⟨s', o, b1, b2, b3, Fr_t f1 (Fr_m b4 (fun x j g => Or.inl g))⟩
    · rw [if_neg (nI_ge (by omega) (by omega))]
      obtain ⟨s1, a1, a2, a3⟩ := c_flc (N := N) hN W (show i < n by omega) hE hp ha hz hP hs hS
      simp (decide := true) only [Option.bind_some, cS_inl, cS_inr, gI_k, gR_k, pI_k, pR_k, cV_k, aI_k, tI_k, rZ_0, rZ_1, rZ_i, aR_24, aR_27, rf_3_6, rf_6_4, rf_6_9, rf_6_10, rf_6_11, rf_6_12, rf_6_5, rf_6_6, rf_6_7, Nat.reduceAdd, kc_394, kc_395, kc_396, kc_397, kc_398, kc_399, kc_400, kc_401, kc_402, kc_403, kc_404, kc_405, kc_406, kc_407, kc_408, kc_409, kc_410, kc_411, kc_412, kc_413, kc_414, kc_415, kc_416, kc_417, kc_418, kn_395, kn_396, kn_397, kn_398, kn_399, kn_400, kn_401, kn_402, kn_403, kn_404, kn_405, kn_406, kn_407, kn_408, kn_409, kn_410, kn_411, kn_412, kn_413, kn_414, kn_415, kn_417, kn_418, a1, nI_1]
      have f1 : Fr (fun x _ => x = 415 ∨ (406 ≤ x ∧ x ≤ 413)) s s1 := Fr_m a3 (by intros; omega)
      obtain ⟨s', o, b1, b2, b3, b4⟩ := ih (i + 1) s1 (by omega) (by omega) (CPl_fr hP hn8 f1 (by intros; omega)) (SAt_fr hs f1 (by intros; omega)) (SvP_fr hS f1 (by intros; omega) (by intros; omega)) (fun k hk m hm => by
        by_cases e : k = i
        · rw [e]; exact a2 m hm
        · rw [a3.1 _ _ (by omega)]; exact hR k (by omega) m hm)
      exact ⟨s', o, b1, b2, b3, Fr_t f1 b4⟩
def LtR (s : sg) (P : pln) (st : Nat → Int32) (K : Nat → Bool) (E n mv goal all : Nat) : Prop := ∀ rest q, rest < 256 → q ≤ 1 → anN rest all = 0 → LtO s P st K E n mv goal rest q
theorem c_latestFor (hN : 1000 ≤ N) (W : Wp P n D mv) (hE : E ≤ 480) (hg : goal ≤ E) (hp : plA p) (ha : stA a) (hz : bz st) {all q0 : Nat} (hall : all < 256) (hq0 : q0 ≤ 1) (hP : CPl s p P n D mv) (hs : SAt s a st K) (hS : SvP s p a E K) : ∃ s' o, fX6_latestFor N 394 (nI all) (nI q0) (nI goal) (mk s) = some (.inl (lvI o), mk s') ∧ obd o ∧ (∀ t, (dfr n mv goal (bhk P st K E) (pls P) (frC P) all q0 t).isSome = true ↔ thr o t) ∧ LtR s' P st K E n mv goal all ∧ Fr (fun x _ => x = 415 ∨ (406 ≤ x ∧ x ≤ 413)) s s' := by
  obtain ⟨s', o, b1, b2, b3, b4⟩ := c_late3 (N := N) hN W hE hg hp ha hz hall hq0 N 0 s (by have := W.1; omega) (by omega) hP hs hS (fun k hk => by omega)
  have hself : anN all all = 0 := (anN_0 hall).mpr (fun j _ h => h)
  obtain ⟨o2, e, b, t⟩ := b3 all q0 hall hq0 hself
  have : lvI o = lvI o2 := b2.symm.trans e
  exact ⟨s', o2, by rw [← this]; exact b1, b, t, b3, b4⟩
/-! the order -/
theorem c_fit3 (hN : 1000 ≤ N) (W : Wp P n D mv) (hE : E ≤ 480) (hg : goal ≤ E) (hp : plA p) {all rest q t k0 : Nat} (hr : rest < 256) (hra : anN rest all = 0) (hq : q ≤ 1) (ht : t ≤ 480) (hP : CPl s p P n D mv) (hS : SvP s p a E K) (hF : FcR s P st K E n) (hL : LtR s P st K E n mv goal all) (hk0 : k0 < n) (g1 : rest.testBit k0 = true) (g2 : frC P k0 rest = true) (g3 : (dfr n mv goal (bhk P st K E) (pls P) (frC P) (rest - 2 ^ k0) (pls P k0) (bhk P st K E k0 (tmv mv q (pls P k0) t))).isSome = true) (g4 : ∀ j, j < k0 → rest.testBit j = true → frC P j rest = true → (dfr n mv goal (bhk P st K E) (pls P) (frC P) (rest - 2 ^ j) (pls P j) (bhk P st K E j (tmv mv q (pls P j) t))).isSome = false) : ∀ (f k : Nat), n - k < f → k ≤ k0 → lX6_firstInTime_3 N f 394 (nI rest) (nI q) (nI t) (nI k) (mk s) = some (.inl (nI k0), mk s) := by
  have hn8 := W.1
  have hpO := plA_O hp
  have hp2 := plA_le hp
  have hmv := W.2.2.2.2.2.1
  intro f
  induction f with
  | zero => intro k hf; omega
  | succ f ih =>
    intro k hf hk
    show bX6_firstInTime_3 N (lX6_firstInTime_3 N f) 394 (nI rest) (nI q) (nI t) (nI k) (mk s) = _
    have hkn : k < n := by omega
    have hkq := hpO.2.2.2.1 k (by omega)
    have i1 : inB (nI k) 8 = true := inA_nI (by omega) (by omega)
    unfold bX6_firstInTime_3
    simp (decide := true) only [Option.bind_some, cS_inl, cS_inr, gI_k, gR_k, pI_k, pR_k, cV_k, aI_k, tI_k, rZ_0, rZ_1, rZ_i, aR_24, aR_27, rf_3_6, rf_6_4, rf_6_9, rf_6_10, rf_6_11, rf_6_12, rf_6_5, rf_6_6, rf_6_7, Nat.reduceAdd, kc_394, kc_395, kc_396, kc_397, kc_398, kc_399, kc_400, kc_401, kc_402, kc_403, kc_404, kc_405, kc_406, kc_407, kc_408, kc_409, kc_410, kc_411, kc_412, kc_413, kc_414, kc_415, kc_416, kc_417, kc_418, kn_395, kn_396, kn_397, kn_398, kn_399, kn_400, kn_401, kn_402, kn_403, kn_404, kn_405, kn_406, kn_407, kn_408, kn_409, kn_410, kn_411, kn_412, kn_413, kn_414, kn_415, kn_417, kn_418, hS.1, hpO.1, hP.2.2.1]
    rw [if_neg (nI_ge hkn (by omega))]
    have nxt : k ≠ k0 → bX6_firstInTime_104 N (lX6_firstInTime_3 N f) 394 (nI rest) (nI q) (nI t) (nI k) (mk s) = some (.inl (nI k0), mk s) := by
      intro hne
      unfold bX6_firstInTime_104
      rw [nI_1]
      exact ih (k + 1) (by omega) (by omega)
    by_cases c2 : rest.testBit k = true
    · rw [if_neg (by rw [bit_nz _ _ (by omega), c2]; decide), nxb hr]
      simp (decide := true) only [Option.bind_some, cS_inl, cS_inr, gI_k, gR_k, pI_k, pR_k, cV_k, aI_k, tI_k, rZ_0, rZ_1, rZ_i, aR_24, aR_27, rf_3_6, rf_6_4, rf_6_9, rf_6_10, rf_6_11, rf_6_12, rf_6_5, rf_6_6, rf_6_7, Nat.reduceAdd, kc_394, kc_395, kc_396, kc_397, kc_398, kc_399, kc_400, kc_401, kc_402, kc_403, kc_404, kc_405, kc_406, kc_407, kc_408, kc_409, kc_410, kc_411, kc_412, kc_413, kc_414, kc_415, kc_416, kc_417, kc_418, kn_395, kn_396, kn_397, kn_398, kn_399, kn_400, kn_401, kn_402, kn_403, kn_404, kn_405, kn_406, kn_407, kn_408, kn_409, kn_410, kn_411, kn_412, kn_413, kn_414, kn_415, kn_417, kn_418, c_isFree W hp hP hS.1 hkn (2 ^ 32 - (rest + 1)), sk_0]
      cases c3 : afb P k (2 ^ 32 - (rest + 1))
      · rw [if_pos rfl]
        exact nxt (fun e => by subst e; unfold frC at g2; rw [c3] at g2; cases g2)
      · rw [if_neg (by decide)]
        simp (decide := true) only [Option.bind_some, cS_inl, cS_inr, gI_k, gR_k, pI_k, pR_k, cV_k, aI_k, tI_k, rZ_0, rZ_1, rZ_i, aR_24, aR_27, rf_3_6, rf_6_4, rf_6_9, rf_6_10, rf_6_11, rf_6_12, rf_6_5, rf_6_6, rf_6_7, Nat.reduceAdd, kc_394, kc_395, kc_396, kc_397, kc_398, kc_399, kc_400, kc_401, kc_402, kc_403, kc_404, kc_405, kc_406, kc_407, kc_408, kc_409, kc_410, kc_411, kc_412, kc_413, kc_414, kc_415, kc_416, kc_417, kc_418, kn_395, kn_396, kn_397, kn_398, kn_399, kn_400, kn_401, kn_402, kn_403, kn_404, kn_405, kn_406, kn_407, kn_408, kn_409, kn_410, kn_411, kn_412, kn_413, kn_414, kn_415, kn_417, kn_418, hS.1, hpO.1, hpO.2.1, hpO.2.2.1, i1, nI_clamp (show k < 2 ^ 31 by omega), hkq, c_place hkq (hP.2.2.2 k hkn), pls_sk, hP.2.1]
        have hpl := pls_le (P := P) k
        have key : ∀ x : Int32, nI t + x = nI (tmv mv q (pls P k) t) → bX6_firstInTime_72 N (lX6_firstInTime_3 N f) 394 (nI rest) (nI q) (nI t) (nI k) (nI (pls P k)) 394 (nI k) (nI t) x (mk s) = some (.inl (nI k0), mk s) := by
          intro x hx
          have htm : tmv mv q (pls P k) t ≤ 600 := by unfold tmv; split <;> omega
          obtain ⟨e, he, re⟩ := c_endFrom (N := N) (st := st) (c := tmv mv q (pls P k) t) (t := tmv mv q (pls P k) t) W hE hp hP hS hF hkn (Or.inl ⟨by omega, rfl⟩) (by omega)
          have hrem := pcf_rem rest hr k (by omega) c2
          obtain ⟨o, eo, bo, to⟩ := hL (rest - 2 ^ k) (pls P k) (s256 hr _) hpl (anN_sub hr hra (by omega) c2)
          have y := ix2 (S := rest - 2 ^ k) (q := pls P k) (s256 hr _) hpl
          unfold bX6_firstInTime_72
          rw [hx]
          simp (decide := true) only [Option.bind_some, cS_inl, cS_inr, gI_k, gR_k, pI_k, pR_k, cV_k, aI_k, tI_k, rZ_0, rZ_1, rZ_i, aR_24, aR_27, rf_3_6, rf_6_4, rf_6_9, rf_6_10, rf_6_11, rf_6_12, rf_6_5, rf_6_6, rf_6_7, Nat.reduceAdd, kc_394, kc_395, kc_396, kc_397, kc_398, kc_399, kc_400, kc_401, kc_402, kc_403, kc_404, kc_405, kc_406, kc_407, kc_408, kc_409, kc_410, kc_411, kc_412, kc_413, kc_414, kc_415, kc_416, kc_417, kc_418, kn_395, kn_396, kn_397, kn_398, kn_399, kn_400, kn_401, kn_402, kn_403, kn_404, kn_405, kn_406, kn_407, kn_408, kn_409, kn_410, kn_411, kn_412, kn_413, kn_414, kn_415, kn_417, kn_418, he, rem_i rest hr k (by omega) c2, ixm, y.1, y.2, eo]
          by_cases c4 : (dfr n mv goal (bhk P st K E) (pls P) (frC P) (rest - 2 ^ k) (pls P k) (bhk P st K E k (tmv mv q (pls P k) t))).isSome = true
          · obtain ⟨v, hv, hle⟩ := (to _).mp c4
            have := bo v hv
            have ee : e = bhk P st K E k (tmv mv q (pls P k) t) := by unfold rl1 at re; omega
            subst hv
            rw [if_neg (show ¬ lvI (some v) < nI e from nI_nlt (by omega) (by omega))]
            unfold bX6_firstInTime_101
            have : k = k0 := by
              by_cases e9 : k = k0
              · exact e9
              · exfalso
                have := g4 k (by omega) c2 c3
                rw [c4] at this
                cases this
            rw [this]
          · have hlt : lvI o < nI e := by
              cases o with
              | none => exact m1_lt (by have := rl1_lt re; omega)
              | some v =>
                have hv := bo v rfl
                refine nI_lt ?_ (by have := rl1_lt re; omega)
                apply Nat.lt_of_not_le
                intro hle
                apply c4
                rw [to, thr_some]
                unfold rl1 at re
                omega
            rw [if_pos hlt]
            exact nxt (fun e9 => by subst e9; exact c4 g3)
        by_cases c5 : pls P k = q
        · rw [if_neg (fun h => h (by rw [c5]))]
          refine key 0 ?_
          unfold tmv
          rw [if_pos c5]
          exact Int32.add_zero _
        · rw [if_pos (fun h => c5 ((nI_eq (by omega) (by omega)).mp h))]
          refine key (nI mv) ?_
          unfold tmv
          rw [if_neg c5, nI_add]
    · rw [if_pos (by rw [bit_nz _ _ (by omega)]; simpa using c2)]
      exact nxt (fun e => by subst e; exact c2 g1)
theorem c_ord44 (hN : 1000 ≤ N) (W : Wp P n D mv) (hE : E ≤ 480) (hg : goal ≤ E) (hp : plA p) {all cnt : Nat} (hcnt : cnt ≤ 8) : ∀ (l : List Nat) (f rest q t i : Nat) (s : sg), l.length < f → rest < 256 → anN rest all = 0 → q ≤ 1 → t ≤ 480 → i + l.length = cnt → dfr n mv goal (bhk P st K E) (pls P) (frC P) rest q t = some l → s.1 394 1 = nI cnt → CPl s p P n D mv → SvP s p a E K → FcR s P st K E n → LtR s P st K E n mv goal all → (rest = 0 ↔ l = []) → (pcf rest = l.length) → ∃ s', lX6_ordersMost_44 N f 394 (nI rest) (nI q) (nI t) (nI i) (mk s) = some (.inl (), mk s') ∧ (∀ j, j < l.length → s'.1 395 (i + j) = nI (l.getD j 0)) ∧ (∀ j, j < i → s'.1 395 j = s.1 395 j) ∧ Fr (fun x _ => x = 395) s s' := by
  have hn8 := W.1
  have hpO := plA_O hp
  have hp2 := plA_le hp
  have hmv := W.2.2.2.2.2.1
  have hOB := bhk_okB (st := st) (K := K) W hE 0 0 0
  intro l
  induction l with
  | nil =>
    intro f rest q t i s hf hr hra hq ht hi hd hc hP hS hF hL h0 hpc
    obtain ⟨f', rfl⟩ : ∃ f', f = f' + 1 := ⟨f - 1, by simp at hf; omega⟩
    show ∃ s', bX6_ordersMost_44 N (lX6_ordersMost_44 N f') 394 (nI rest) (nI q) (nI t) (nI i) (mk s) = _ ∧ _
    unfold bX6_ordersMost_44
    simp (decide := true) only [Option.bind_some, cS_inl, cS_inr, gI_k, gR_k, pI_k, pR_k, cV_k, aI_k, tI_k, rZ_0, rZ_1, rZ_i, aR_24, aR_27, rf_3_6, rf_6_4, rf_6_9, rf_6_10, rf_6_11, rf_6_12, rf_6_5, rf_6_6, rf_6_7, Nat.reduceAdd, kc_394, kc_395, kc_396, kc_397, kc_398, kc_399, kc_400, kc_401, kc_402, kc_403, kc_404, kc_405, kc_406, kc_407, kc_408, kc_409, kc_410, kc_411, kc_412, kc_413, kc_414, kc_415, kc_416, kc_417, kc_418, kn_395, kn_396, kn_397, kn_398, kn_399, kn_400, kn_401, kn_402, kn_403, kn_404, kn_405, kn_406, kn_407, kn_408, kn_409, kn_410, kn_411, kn_412, kn_413, kn_414, kn_415, kn_417, kn_418, hc]
    simp only [List.length_nil, Nat.add_zero] at hi
    rw [if_pos (nI_le (by omega) (by omega))]
    exact ⟨s, rfl, fun j hj => by simp at hj, fun j _ => rfl, Fr_r _ _⟩
  | cons k0 l ih =>
    intro f rest q t i s hf hr hra hq ht hi hd hc hP hS hF hL h0 hpc
    obtain ⟨f', rfl⟩ : ∃ f', f = f' + 1 := ⟨f - 1, by simp at hf; omega⟩
    show ∃ s', bX6_ordersMost_44 N (lX6_ordersMost_44 N f') 394 (nI rest) (nI q) (nI t) (nI i) (mk s) = _ ∧ _
    have hr0 : rest ≠ 0 := fun e => by have := h0.mp e; cases this
    obtain ⟨k, l', hk, hl, g1, g2, g3, g4, g5⟩ := dfr_hd hn8 hr hr0 hd
    have ek : k0 = k := by have := List.cons.inj hl; exact this.1
    have el : l = l' := by have := List.cons.inj hl; exact this.2
    subst ek el
    simp only [List.length_cons] at hi hf hpc
    have hft := c_fit3 (N := N) (t := t) hN W hE hg hp hr hra hq ht hP hS hF hL hk g1 g2 (by rw [g4]; rfl) (fun j q1 q2 q3 => by
      cases hq9 : (dfr n mv goal (bhk P st K E) (pls P) (frC P) (rest - 2 ^ j) (pls P j) (bhk P st K E j (tmv mv q (pls P j) t))) with
      | none => rfl
      | some l9 =>
        exfalso
        have hrem := pcf_rem rest hr j (by omega) q2
        have hle := dfr_le hOB hg (show rest - 2 ^ j < 256 from s256 hr _) (by rw [hq9]; rfl)
        have := g5 j q1 q2 q3 hle
        rw [hq9] at this
        cases this) N 0 (by omega) (by omega)
    have hft2 : fX6_firstInTime N 394 (nI rest) (nI q) (nI t) (mk s) = some (.inl (nI k0), mk s) := hft
    have hkq := hpO.2.2.2.1 k0 (by omega)
    have i1 : inB (nI k0) 8 = true := inA_nI (by omega) (by omega)
    have i2 : inB (nI i) 8 = true := inA_nI (by omega) (by omega)
    have hpl := pls_le (P := P) k0
    have hrem := pcf_rem rest hr k0 (by omega) g1
    unfold bX6_ordersMost_44
    simp (decide := true) only [Option.bind_some, cS_inl, cS_inr, gI_k, gR_k, pI_k, pR_k, cV_k, aI_k, tI_k, rZ_0, rZ_1, rZ_i, aR_24, aR_27, rf_3_6, rf_6_4, rf_6_9, rf_6_10, rf_6_11, rf_6_12, rf_6_5, rf_6_6, rf_6_7, Nat.reduceAdd, kc_394, kc_395, kc_396, kc_397, kc_398, kc_399, kc_400, kc_401, kc_402, kc_403, kc_404, kc_405, kc_406, kc_407, kc_408, kc_409, kc_410, kc_411, kc_412, kc_413, kc_414, kc_415, kc_416, kc_417, kc_418, kn_395, kn_396, kn_397, kn_398, kn_399, kn_400, kn_401, kn_402, kn_403, kn_404, kn_405, kn_406, kn_407, kn_408, kn_409, kn_410, kn_411, kn_412, kn_413, kn_414, kn_415, kn_417, kn_418, hc]
    rw [if_neg (nI_ge (by omega) (by omega)), if_neg (show ¬ (8 : Int32) ≤ nI i from nI_ge (b := 8) (by omega) (by omega))]
    simp (decide := true) only [Option.bind_some, cS_inl, cS_inr, gI_k, gR_k, pI_k, pR_k, cV_k, aI_k, tI_k, rZ_0, rZ_1, rZ_i, aR_24, aR_27, rf_3_6, rf_6_4, rf_6_9, rf_6_10, rf_6_11, rf_6_12, rf_6_5, rf_6_6, rf_6_7, Nat.reduceAdd, kc_394, kc_395, kc_396, kc_397, kc_398, kc_399, kc_400, kc_401, kc_402, kc_403, kc_404, kc_405, kc_406, kc_407, kc_408, kc_409, kc_410, kc_411, kc_412, kc_413, kc_414, kc_415, kc_416, kc_417, kc_418, kn_395, kn_396, kn_397, kn_398, kn_399, kn_400, kn_401, kn_402, kn_403, kn_404, kn_405, kn_406, kn_407, kn_408, kn_409, kn_410, kn_411, kn_412, kn_413, kn_414, kn_415, kn_417, kn_418, hft2]
    rw [if_pos (m1_ne (by omega))]
    simp (decide := true) only [Option.bind_some, cS_inl, cS_inr, gI_k, gR_k, pI_k, pR_k, cV_k, aI_k, tI_k, rZ_0, rZ_1, rZ_i, aR_24, aR_27, rf_3_6, rf_6_4, rf_6_9, rf_6_10, rf_6_11, rf_6_12, rf_6_5, rf_6_6, rf_6_7, Nat.reduceAdd, kc_394, kc_395, kc_396, kc_397, kc_398, kc_399, kc_400, kc_401, kc_402, kc_403, kc_404, kc_405, kc_406, kc_407, kc_408, kc_409, kc_410, kc_411, kc_412, kc_413, kc_414, kc_415, kc_416, kc_417, kc_418, kn_395, kn_396, kn_397, kn_398, kn_399, kn_400, kn_401, kn_402, kn_403, kn_404, kn_405, kn_406, kn_407, kn_408, kn_409, kn_410, kn_411, kn_412, kn_413, kn_414, kn_415, kn_417, kn_418, hS.1, hpO.1, hpO.2.1, hpO.2.2.1, i1, nI_clamp (show k0 < 2 ^ 31 by omega), hkq, c_place hkq (hP.2.2.2 k0 hk), pls_sk, hP.2.1]
    have key : ∀ x : Int32, nI t + x = nI (tmv mv q (pls P k0) t) → ∃ s', bX6_ordersMost_112 N (lX6_ordersMost_44 N f') 394 (nI rest) (nI i) (nI k0) (p + 1 + 7 + k0) 394 (nI k0) (nI t) x (mk s) = some (.inl (), mk s') ∧ (∀ j, j < l.length + 1 → s'.1 395 (i + j) = nI ((k0 :: l).getD j 0)) ∧ (∀ j, j < i → s'.1 395 j = s.1 395 j) ∧ Fr (fun x _ => x = 395) s s' := by
      intro x hx
      have htm : tmv mv q (pls P k0) t ≤ 600 := by unfold tmv; split <;> omega
      obtain ⟨e, he, re⟩ := c_endFrom (N := N) (st := st) (c := tmv mv q (pls P k0) t) (t := tmv mv q (pls P k0) t) W hE hp hP hS hF hk (Or.inl ⟨by omega, rfl⟩) (by omega)
      have ee : e = bhk P st K E k0 (tmv mv q (pls P k0) t) := by unfold rl1 at re; omega
      subst ee
      unfold bX6_ordersMost_112
      rw [hx]
      simp (decide := true) only [Option.bind_some, cS_inl, cS_inr, gI_k, gR_k, pI_k, pR_k, cV_k, aI_k, tI_k, rZ_0, rZ_1, rZ_i, aR_24, aR_27, rf_3_6, rf_6_4, rf_6_9, rf_6_10, rf_6_11, rf_6_12, rf_6_5, rf_6_6, rf_6_7, Nat.reduceAdd, kc_394, kc_395, kc_396, kc_397, kc_398, kc_399, kc_400, kc_401, kc_402, kc_403, kc_404, kc_405, kc_406, kc_407, kc_408, kc_409, kc_410, kc_411, kc_412, kc_413, kc_414, kc_415, kc_416, kc_417, kc_418, kn_395, kn_396, kn_397, kn_398, kn_399, kn_400, kn_401, kn_402, kn_403, kn_404, kn_405, kn_406, kn_407, kn_408, kn_409, kn_410, kn_411, kn_412, kn_413, kn_414, kn_415, kn_417, kn_418, he, hkq, c_place hkq (hP.2.2.2 k0 hk), pls_sk, i2, nI_clamp (show i < 2 ^ 31 by omega), rem_i rest hr k0 (by omega) g1, nI_1]
      have f1 : Fr (fun x _ => x = 395) s (sI s 395 i (nI k0)) := Fr_sI rfl
      have hz : rest - 2 ^ k0 = 0 ↔ l = [] := by
        constructor
        · intro h
          rw [h, dfr_0] at g4
          by_cases c : bhk P st K E k0 (tmv mv q (pls P k0) t) ≤ goal
          · rw [if_pos c] at g4; exact (Option.some.inj g4).symm
          · exact absurd g3 c
        · intro h
          subst h
          exact pcf_z _ (s256 hr _) (by simp at hpc; omega)
      obtain ⟨s', b1, b2, b3, b4⟩ := ih f' (rest - 2 ^ k0) (pls P k0) (bhk P st K E k0 (tmv mv q (pls P k0) t)) (i + 1) (sI s 395 i (nI k0)) (by omega) (s256 hr _) (anN_sub hr hra (by omega) g1) hpl (by omega) (by omega) g4 (by rw [f1.1 _ _ (by omega)]; exact hc) (CPl_fr hP hn8 f1 (by intros; omega)) (SvP_fr hS f1 (by intros; omega) (by intros; omega)) (fun k' hk' m hm => by rw [f1.1 _ _ (by omega)]; exact hF k' hk' m hm) (fun r' q' h1 h2 h3 => by
        obtain ⟨o, e, b⟩ := hL r' q' h1 h2 h3
        exact ⟨o, by rw [f1.1 _ _ (by omega), e], b⟩) hz (by omega)
      refine ⟨s', b1, fun j hj => ?_, fun j hj => ?_, Fr_t f1 b4⟩
      · cases j with
        | zero =>
          rw [Nat.add_zero, b3 i (by omega), sI_1, if_pos ⟨rfl, rfl⟩]
          rfl
        | succ j =>
          have := b2 j (by omega)
          rw [show i + (j + 1) = i + 1 + j by omega, this]
          rfl
      · rw [b3 j (by omega), sI_1, if_neg (by omega)]
    by_cases c5 : pls P k0 = q
    · rw [if_neg (fun h => h (by rw [c5]))]
      refine key 0 ?_
      unfold tmv
      rw [if_pos c5]
      exact Int32.add_zero _
    · rw [if_pos (fun h => c5 ((nI_eq (by omega) (by omega)).mp h))]
      refine key (nI mv) ?_
      unfold tmv
      rw [if_neg c5, nI_add]
end CL
