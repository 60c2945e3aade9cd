/- needs: 43.rules -/
/-! a day by a rule: what both sides do -/
theorem evq_ex {q v : Nat → Int32} : ∀ {f i h : Nat} {S S' : Nat → Int32}, wfc q f i h → (∀ j, j < h → S j = S' j) → evq q v f i h S = evq q v f i h S'
  | 0, _, h, S, S', hw, hS => by
    have : h = 1 := hw
    exact hS 0 (by omega)
  | f + 1, i, h, S, S', hw, hS => by
    rw [evq_s, evq_s]
    rcases hw with ⟨w1, w2, w3, w4⟩ | ⟨w1, w2, w4⟩ | ⟨w1, w2, w4⟩
    · rw [if_pos w1, if_pos w1]
      refine evq_ex w4 (fun j hj => ?_)
      unfold up1
      by_cases c : j = h
      · rw [if_pos c, if_pos c]
      · rw [if_neg c, if_neg c]; exact hS j (by omega)
    · have n20 : ¬ -20 < q i := by rw [w1]; decide
      rw [if_neg n20, if_pos w1, if_neg n20, if_pos w1, hS (h - 1) (by omega)]
      refine evq_ex w4 (fun j hj => ?_)
      unfold up1
      by_cases c : j = h - 1
      · rw [if_pos c, if_pos c]
      · rw [if_neg c, if_neg c]; exact hS j (by omega)
    · obtain ⟨o1, o2, o3, o4, o5⟩ := opq_n w1
      rw [if_neg o1, if_neg o2, if_neg o1, if_neg o2, hS (h - 1) (by omega), hS (h - 2) (by omega)]
      refine evq_ex w4 (fun j hj => ?_)
      unfold up1
      by_cases c : j = h - 2
      · rw [if_pos c, if_pos c]
      · rw [if_neg c, if_neg c]; exact hS j (by omega)
/-- what a rule may ask of a shot -/
def vls (P : pln) (st : Nat → Int32) (K : Nat → Bool) (D k : Nat) : Nat → Int32 := fun j => if j = 0 then P 3 k else if j = 1 then P 1 k else if j = 2 then P 2 k else if j = 3 then nI (stays K D (nowN st)) else if j = 4 then P 5 k - st 0 + 1 else if j = 5 then nI (nowN st / 60) else if j = 6 then st 3 else st (7 + k)
/-- what rule x gives a shot (x = -1: by none) -/
def gvl (P : pln) (K : Nat → Bool) (D : Nat) (q : Nat → Int32) (b : Nat → Nat) (x : Int32) (st : Nat → Int32) (k : Nat) : Int32 := if x = -1 then 1 else evq q (vls P st K D k) (b (x.toNatClampNeg + 1) - b x.toNatClampNeg) (b x.toNatClampNeg) 0 (fun _ => 0)
/-- good rules: nr of them, rule r being the steps from b r to b (r + 1) -/
def Wr (nr : Nat) (q : Nat → Int32) (b : Nat → Nat) : Prop := nr ≤ 4 ∧ b 0 = 0 ∧ ∀ r, r < nr → b r ≤ b (r + 1) ∧ b (r + 1) ≤ 700 ∧ wfc q (b (r + 1) - b r) (b r) 0
def pkf (why g : Nat → Int32) : Nat → Nat → Int32 → Int32 → Int32
  | 0, _, b, _ => b
  | f + 1, k, b, mo => if why k = 0 ∧ mo < g k then pkf why g f (k + 1) (nI k) (g k) else pkf why g f (k + 1) b mo
theorem pkf_s (why g : Nat → Int32) (f k : Nat) (b mo : Int32) : pkf why g (f + 1) k b mo = if why k = 0 ∧ mo < g k then pkf why g f (k + 1) (nI k) (g k) else pkf why g f (k + 1) b mo := rfl
theorem pkf_or (why g : Nat → Int32) : ∀ f k b mo, pkf why g f k b mo = b ∨ ∃ j, k ≤ j ∧ j < k + f ∧ pkf why g f k b mo = nI j ∧ why j = 0
  | 0, _, _, _ => Or.inl rfl
  | f + 1, k, b, mo => by
    rw [pkf_s]
    by_cases c : why k = 0 ∧ mo < g k
    · rw [if_pos c]
      rcases pkf_or why g f (k + 1) (nI k) (g k) with h | ⟨j, h1, h2, h3, h4⟩
      · exact Or.inr ⟨k, by omega, by omega, h, c.1⟩
      · exact Or.inr ⟨j, by omega, by omega, h3, h4⟩
    · rw [if_neg c]
      rcases pkf_or why g f (k + 1) b mo with h | ⟨j, h1, h2, h3, h4⟩
      · exact Or.inl h
      · exact Or.inr ⟨j, by omega, by omega, h3, h4⟩
/-- none gives more than one -/
theorem pkf_1 (why : Nat → Int32) {g : Nat → Int32} (hg : ∀ k, g k = 1) : ∀ f k b, pkf why g f k b 1 = b
  | 0, _, _ => rfl
  | f + 1, k, b => by rw [pkf_s, if_neg (by rw [hg]; exact fun q => absurd q.2 (by decide)), pkf_1 why hg f]
def opk (P : pln) (st : Nat → Int32) (k : Nat) : Bool := !sBit (st 2) (nI k) && (decide (P 6 k = -1) || sBit (st 2) (P 6 k))
/-- some are open inside (b), or out -/
def sme (P : pln) (st : Nat → Int32) (b : Bool) : Nat → Bool
  | 0 => false
  | k + 1 => sme P st b k || (opk P st k && (decide (P 1 k = 2) == b))
theorem sme_s (P : pln) (st : Nat → Int32) (b : Bool) (k : Nat) : sme P st b (k + 1) = (sme P st b k || (opk P st k && (decide (P 1 k = 2) == b))) := rfl
abbrev dT : Type := (Nat → Int32) × Int32 × (Nat → Int32) × Int32 × Int32 × Int32 × Int32
/-- where all are -/
def isI (st : Nat → Int32) : Bool := decide (st 1 = 1)
def dPk (P : pln) (K : Nat → Bool) (n D : Nat) (g : (Nat → Int32) → Nat → Int32) (st : Nat → Int32) : Int32 := pkf (fun k => sWhy P st K D k (nowN st)) (g st) n 0 (-1) 0
def dTk (P : pln) (K : Nat → Bool) (D k : Nat) (t : dT) : dT := if sEn P t.1 K D k (nowN t.1) (ln P k) = true then (sTk t.1 k (sGo P t.1 K k (nowN t.1) (ln P k - 1) 1) true, t.2.1 ||| ((1 : Int32) <<< (nI k &&& 31)), up1 t.2.2.1 k (t.1 0 + nI (sGo P t.1 K k (nowN t.1) (ln P k - 1) 1)), t.2.2.2.1, t.1 0 + nI (sGo P t.1 K k (nowN t.1) (ln P k - 1) 1), t.2.2.2.2.2) else (sTk t.1 k (sGo P t.1 K k (nowN t.1) (ln P k - 1) 1) false, t.2.1, t.2.2.1, t.2.2.2.1 + 1, t.2.2.2.2)
def mvs (P : pln) (n D mv : Nat) (st : Nat → Int32) : Prop := sme P st (isI st) n = false ∧ sme P st (!isI st) n = true ∧ nowN st + mv < D
def dGo (P : pln) (n D mv : Nat) (t : dT) : dT := if sme P t.1 (isI t.1) n = false ∧ sme P t.1 (!isI t.1) n = true ∧ nowN t.1 + mv < D then (sMv t.1 (nI mv), t.2.1, t.2.2.1, t.2.2.2.1, t.2.2.2.2.1, t.2.2.2.2.2.1, t.2.2.2.2.2.2 + 1) else (sWt t.1 1, t.2.1, t.2.2.1, t.2.2.2.1, t.2.2.2.2.1, t.2.2.2.2.2.1 + 1, t.2.2.2.2.2.2)
def dSt (P : pln) (K : Nat → Bool) (n D mv : Nat) (g : (Nat → Int32) → Nat → Int32) (t : dT) : dT := if dPk P K n D g t.1 = -1 then dGo P n D mv t else dTk P K D (dPk P K n D g t.1).toNatClampNeg t
def dLp (P : pln) (K : Nat → Bool) (n D mv : Nat) (g : (Nat → Int32) → Nat → Int32) : Nat → dT → dT
  | 0, t => t
  | f + 1, t => if nowN t.1 < D then dLp P K n D mv g f (dSt P K n D mv g t) else t
theorem dLp_s (P : pln) (K : Nat → Bool) (n D mv : Nat) (g : (Nat → Int32) → Nat → Int32) (f : Nat) (t : dT) : dLp P K n D mv g (f + 1) t = if nowN t.1 < D then dLp P K n D mv g f (dSt P K n D mv g t) else t := rfl
/-- steps that are left, at most -/
def bnd (P : pln) (n D : Nat) (st : Nat → Int32) : Nat := 2 * (D - nowN st) + (if sme P st (isI st) n = false ∧ sme P st (!isI st) n = true then 1 else 0)
section DP
variable {P : pln} {K : Nat → Bool} {n D mv : Nat} {g : (Nat → Int32) → Nat → Int32} {st : Nat → Int32} {t : dT}
theorem sGo_b (st : Nat → Int32) (k m : Nat) : ∀ f i, i ≤ sGo P st K k m f i ∧ sGo P st K k m f i ≤ i + f
  | 0, i => ⟨Nat.le_refl _, Nat.le_refl _⟩
  | f + 1, i => by
    rw [sGo_s]
    split
    · have := sGo_b st k m f (i + 1)
      omega
    · omega
theorem why0 {k m : Nat} (W : Wp P n D mv) (hk : k < n) (hm : m < D) (h : sWhy P st K D k m = 0) : m + ln P k ≤ D ∧ sMin P st K D k m = 0 := by
  have hD := W.2.2.2.1
  have hw := W.2.2.2.2.2.2.2 k hk
  have h0 : sMin P st K D k m = 0 := by
    unfold sWhy at h
    split at h
    · exact absurd h (by decide)
    · split at h
      · exact absurd h (by decide)
      · split at h
        · exact absurd h (by decide)
        · exact h
  refine ⟨?_, h0⟩
  unfold sMin at h0
  split at h0
  · exact absurd h0 (by decide)
  · split at h0
    · split at h0
      · split at h0
        · rename_i q
          rw [hw.2.1.1, nI_add] at q
          apply Nat.le_of_not_lt
          intro c
          exact nI_ge c (by have := hw.2.1.2; omega) q
        · exact absurd h0 (by decide)
      · exact absurd h0 (by decide)
    · exact absurd h0 (by decide)
theorem nowN_of {m : Nat} (h : st 0 = nI m) (hm : m < 2 ^ 31) : nowN st = m := by unfold nowN; rw [h, nI_clamp hm]
theorem dPk_c (W : Wp P n D mv) (Z : Ws st n D) (h : nowN st < D) : dPk P K n D g st = -1 ∨ ∃ k, k < n ∧ dPk P K n D g st = nI k ∧ nowN st + ln P k ≤ D ∧ sWhy P st K D k (nowN st) = 0 := by
  unfold dPk
  rcases pkf_or (fun k => sWhy P st K D k (nowN st)) (g st) n 0 (-1) 0 with q | ⟨j, h1, h2, h3, h4⟩
  · exact Or.inl q
  · exact Or.inr ⟨j, by omega, h3, (why0 W (by omega) h h4).1, h4⟩
/-- a shot is taken: the state stays good, time goes on -/
theorem tk_ok (W : Wp P n D mv) (Z : Ws st n D) {k : Nat} (hk : k < n) (hm : nowN st + ln P k ≤ D) (b : Bool) : Ws (sTk st k (sGo P st K k (nowN st) (ln P k - 1) 1) b) n D ∧ nowN (sTk st k (sGo P st K k (nowN st) (ln P k - 1) 1) b) = nowN st + sGo P st K k (nowN st) (ln P k - 1) 1 ∧ nowN st < nowN (sTk st k (sGo P st K k (nowN st) (ln P k - 1) 1) b) := by
  have hn8 := W.1
  have hD := W.2.2.2.1
  have hl := (W.2.2.2.2.2.2.2 k hk).2.1.2
  have hp8 := pn8 hn8
  obtain ⟨⟨h0, h0'⟩, ⟨h1, h1'⟩, ⟨h2, h2'⟩⟩ := Ws_n Z W.1 W.2.2.2.1
  have hb := sGo_b (P := P) (K := K) st k (nowN st) (ln P k - 1) 1
  have e0 : sTk st k (sGo P st K k (nowN st) (ln P k - 1) 1) b 0 = nI (nowN st + sGo P st K k (nowN st) (ln P k - 1) 1) := by
    show (if (0 : Nat) = 0 then st 0 + nI _ else _) = _
    rw [if_pos rfl, h0, nI_add]
  have hNw := nowN_of e0 (by omega)
  have e1 : sTk st k (sGo P st K k (nowN st) (ln P k - 1) 1) b 1 = st 1 := by
    unfold sTk
    cases b
    · simp only [Bool.false_eq_true, if_false]
      rw [if_neg (by omega), if_neg (by omega), if_neg (by omega), if_neg (by omega)]
    · simp only [if_true]
      rw [if_neg (by omega), if_neg (by omega), if_neg (by omega), if_neg (by omega)]
  have e56 : ∀ j, j = 5 ∨ j = 6 → sTk st k (sGo P st K k (nowN st) (ln P k - 1) 1) b j = st j := fun j hj => by
    unfold sTk
    cases b
    · simp only [Bool.false_eq_true, if_false]
      rw [if_neg (by omega), if_neg (by omega), if_neg (by omega), if_neg (by omega)]
    · simp only [if_true]
      rw [if_neg (by omega), if_neg (by omega), if_neg (by omega), if_neg (by omega)]
  refine ⟨⟨⟨_, by omega, e0⟩, ?_, ?_, ?_⟩, hNw, by omega⟩
  · rw [e1]; exact Z.2.1
  · unfold sTk
    cases b
    · refine ⟨hN st, h2', ?_⟩
      simp only [Bool.false_eq_true, if_false]
      rw [if_neg (by omega), if_neg (by omega), if_neg (by omega), if_neg (by omega)]
      exact h2
    · refine ⟨hN st ||| 2 ^ k, Nat.or_lt_two_pow h2' (Nat.pow_lt_pow_right (by omega) hk), ?_⟩
      simp only [if_true]
      rw [if_neg (by omega), if_neg (by omega), if_neg (by omega), h2, or_bit _ _ (by omega)]
  · exact ⟨by rw [e56 5 (Or.inl rfl)]; exact Z.2.2.2.1, by rw [e56 6 (Or.inr rfl)]; exact Z.2.2.2.2⟩
theorem wt_ok (W : Wp P n D mv) (Z : Ws st n D) {w : Nat} (hm : nowN st + w ≤ D) : Ws (sWt st (nI w)) n D ∧ nowN (sWt st (nI w)) = nowN st + w := by
  have hD := W.2.2.2.1
  obtain ⟨⟨h0, h0'⟩, _⟩ := Ws_n Z W.1 W.2.2.2.1
  have e0 : sWt st (nI w) 0 = nI (nowN st + w) := by
    show (if (0 : Nat) = 0 then st 0 + nI w else _) = _
    rw [if_pos rfl, h0, nI_add]
  have e : ∀ j, j ≠ 0 → j ≠ 3 → sWt st (nI w) j = st j := fun j h1 h2 => by
    unfold sWt
    rw [if_neg h1, if_neg h2]
  exact ⟨⟨⟨_, hm, e0⟩, by rw [e 1 (by omega) (by omega)]; exact Z.2.1, by rw [e 2 (by omega) (by omega)]; exact Z.2.2.1, by rw [e 5 (by omega) (by omega)]; exact Z.2.2.2.1, by rw [e 6 (by omega) (by omega)]; exact Z.2.2.2.2⟩, nowN_of e0 (by omega)⟩
theorem mv_ok (W : Wp P n D mv) (Z : Ws st n D) (hm : nowN st + mv ≤ D) : Ws (sMv st (nI mv)) n D ∧ nowN (sMv st (nI mv)) = nowN st + mv ∧ isI (sMv st (nI mv)) = !isI st ∧ sMv st (nI mv) 2 = st 2 := by
  have hD := W.2.2.2.1
  obtain ⟨⟨h0, h0'⟩, _⟩ := Ws_n Z W.1 W.2.2.2.1
  have e0 : sMv st (nI mv) 0 = nI (nowN st + mv) := by
    show (if (0 : Nat) = 0 then st 0 + nI mv else _) = _
    rw [if_pos rfl, h0, nI_add]
  have e1 : sMv st (nI mv) 1 = 1 - st 1 := rfl
  have e : ∀ j, j ≠ 0 → j ≠ 1 → j ≠ 3 → sMv st (nI mv) j = st j := fun j h1 h2 h3 => by
    unfold sMv
    rw [if_neg h1, if_neg h2, if_neg h3]
  refine ⟨⟨⟨_, hm, e0⟩, ?_, by rw [e 2 (by omega) (by omega) (by omega)]; exact Z.2.2.1, by rw [e 5 (by omega) (by omega) (by omega)]; exact Z.2.2.2.1, by rw [e 6 (by omega) (by omega) (by omega)]; exact Z.2.2.2.2⟩, nowN_of e0 (by omega), ?_, e 2 (by omega) (by omega) (by omega)⟩
  · rw [e1]
    rcases Z.2.1 with q | q <;> rw [q] <;> decide
  · unfold isI
    rw [e1]
    rcases Z.2.1 with q | q <;> rw [q] <;> decide
theorem opk_2 {st' : Nat → Int32} (h : st' 2 = st 2) (k : Nat) : opk P st' k = opk P st k := by unfold opk; rw [h]
theorem sme_2 {st' : Nat → Int32} (h : st' 2 = st 2) (b : Bool) : ∀ k, sme P st' b k = sme P st b k
  | 0 => rfl
  | k + 1 => by rw [sme_s, sme_s, sme_2 h b k, opk_2 h]
theorem bnd_lt {st' : Nat → Int32} (h1 : nowN st < nowN st') (h2 : nowN st < D) : bnd P n D st' < bnd P n D st := by
  have hfl : (if sme P st' (isI st') n = false ∧ sme P st' (!isI st') n = true then 1 else 0) ≤ 1 := by split <;> omega
  unfold bnd
  omega
theorem dSt_ok (W : Wp P n D mv) (Z : Ws t.1 n D) (h : nowN t.1 < D) : Ws (dSt P K n D mv g t).1 n D ∧ bnd P n D (dSt P K n D mv g t).1 < bnd P n D t.1 := by
  have hmv := W.2.2.2.2.2.1
  have hfl : ∀ st', (if sme P st' (isI st') n = false ∧ sme P st' (!isI st') n = true then 1 else 0) ≤ 1 := fun st' => by split <;> omega
  unfold dSt
  rcases dPk_c (g := g) (K := K) W Z h with q | ⟨k, hk, q, hm, hwy⟩
  · rw [if_pos q]
    unfold dGo
    by_cases c : sme P t.1 (isI t.1) n = false ∧ sme P t.1 (!isI t.1) n = true ∧ nowN t.1 + mv < D
    · rw [if_pos c]
      obtain ⟨o1, o2, o3, o4⟩ := mv_ok W Z (by omega)
      refine ⟨o1, ?_⟩
      unfold bnd
      show 2 * (D - nowN (sMv t.1 (nI mv))) + (if sme P (sMv t.1 (nI mv)) (isI (sMv t.1 (nI mv))) n = false ∧ sme P (sMv t.1 (nI mv)) (!isI (sMv t.1 (nI mv))) n = true then 1 else 0) < _
      rw [o2, o3, sme_2 o4, sme_2 o4, if_neg (by rw [c.2.1]; exact fun q => absurd q.1 (by decide)), if_pos ⟨c.1, c.2.1⟩]
      omega
    · rw [if_neg c]
      obtain ⟨o1, o2⟩ := wt_ok (w := 1) W Z (by omega)
      refine ⟨o1, ?_⟩
      unfold bnd
      show 2 * (D - nowN (sWt t.1 1)) + (if sme P (sWt t.1 1) (isI (sWt t.1 1)) n = false ∧ sme P (sWt t.1 1) (!isI (sWt t.1 1)) n = true then 1 else 0) < _
      have o2' : nowN (sWt t.1 1) = nowN t.1 + 1 := o2
      have := hfl (sWt t.1 1)
      rw [o2']
      omega
  · rw [if_neg (by rw [q]; exact m1_ne (by have := W.1; omega)), q, nI_clamp (by have := W.1; omega)]
    unfold dTk
    by_cases c : sEn P t.1 K D k (nowN t.1) (ln P k) = true
    · rw [if_pos c]
      obtain ⟨o1, o2, o3⟩ := tk_ok (K := K) W Z hk hm true
      exact ⟨o1, bnd_lt o3 h⟩
    · rw [if_neg c]
      obtain ⟨o1, o2, o3⟩ := tk_ok (K := K) W Z hk hm false
      exact ⟨o1, bnd_lt o3 h⟩
theorem dLp_f (W : Wp P n D mv) : ∀ (f : Nat) (t : dT), Ws t.1 n D → bnd P n D t.1 ≤ f → ∀ f', bnd P n D t.1 ≤ f' → dLp P K n D mv g f t = dLp P K n D mv g f' t := by
  have hstop : ∀ (t : dT) f, ¬ nowN t.1 < D → dLp P K n D mv g f t = t := fun t f c => by
    cases f with
    | zero => rfl
    | succ f => rw [dLp_s, if_neg c]
  intro f
  induction f with
  | zero =>
    intro t Z h f' h'
    have c : ¬ nowN t.1 < D := fun q => by unfold bnd at h; omega
    rw [hstop t _ c, hstop t _ c]
  | succ f ih =>
    intro t Z h f' h'
    by_cases c : nowN t.1 < D
    · obtain ⟨Z', hb⟩ := dSt_ok (K := K) (g := g) W Z c
      obtain ⟨g', rfl⟩ : ∃ g', f' = g' + 1 := ⟨f' - 1, by omega⟩
      rw [dLp_s, dLp_s, if_pos c, if_pos c]
      exact ih _ Z' (by omega) g' (by omega)
    · rw [hstop t _ c, hstop t _ c]
/-- the day from t on -/
def dRun (P : pln) (K : Nat → Bool) (n D mv : Nat) (g : (Nat → Int32) → Nat → Int32) (t : dT) : dT := dLp P K n D mv g (bnd P n D t.1) t
theorem dRun_s (W : Wp P n D mv) (Z : Ws t.1 n D) (h : nowN t.1 < D) : dRun P K n D mv g t = dRun P K n D mv g (dSt P K n D mv g t) := by
  obtain ⟨Z', hb⟩ := dSt_ok (K := K) (g := g) W Z h
  obtain ⟨b', hb'⟩ : ∃ b', bnd P n D t.1 = b' + 1 := ⟨bnd P n D t.1 - 1, by omega⟩
  unfold dRun
  rw [hb', dLp_s, if_pos h, dLp_f W b' _ Z' (by omega) _ (Nat.le_refl _)]
theorem dRun_e (h : ¬ nowN t.1 < D) : dRun P K n D mv g t = t := by
  unfold dRun
  cases bnd P n D t.1 with
  | zero => rfl
  | succ b' => rw [dLp_s, if_neg h]
end DP
