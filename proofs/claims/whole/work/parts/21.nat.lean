/- needs: 21.mbase -/
theorem nc_0 : Int32.toNatClampNeg 0 = 0 := rfl
theorem nc_1 : Int32.toNatClampNeg 1 = 1 := rfl
theorem nc_2 : Int32.toNatClampNeg 2 = 2 := rfl
theorem nc_3 : Int32.toNatClampNeg 3 = 3 := rfl
theorem nc_4 : Int32.toNatClampNeg 4 = 4 := rfl
theorem nc_5 : Int32.toNatClampNeg 5 = 5 := rfl
theorem nc_6 : Int32.toNatClampNeg 6 = 6 := rfl
theorem nc_7 : Int32.toNatClampNeg 7 = 7 := rfl
theorem nc_8 : Int32.toNatClampNeg 8 = 8 := rfl
theorem nc_9 : Int32.toNatClampNeg 9 = 9 := rfl
theorem nc_10 : Int32.toNatClampNeg 10 = 10 := rfl
theorem nc_11 : Int32.toNatClampNeg 11 = 11 := rfl
theorem nc_12 : Int32.toNatClampNeg 12 = 12 := rfl
theorem nc_13 : Int32.toNatClampNeg 13 = 13 := rfl
theorem nc_14 : Int32.toNatClampNeg 14 = 14 := rfl
theorem nc_15 : Int32.toNatClampNeg 15 = 15 := rfl
theorem bt_nI (h i : Nat) (hi : i < 32) : bt (nI h) i = h.testBit i := by
  show (BitVec.ofNat 32 h).getLsbD i = _
  rw [BitVec.getLsbD_ofNat]
  simp [hi]
theorem bit_of (x : Int32) (k : Nat) (hk : k < 32) : ((x >>> (nI k &&& 31)) &&& 1 = 1) ↔ bt x k = true := by
  rw [b_and1, b_sshr k hk x (by omega)]
  simp [hk]
theorem or_bit (h k : Nat) (hk : k < 32) : nI h ||| ((1 : Int32) <<< (nI k &&& 31)) = nI (h ||| 2 ^ k) := by
  refine b_ext fun i hi => ?_
  rw [b_or, b_shl1 k hk hi, bt_nI _ _ hi, bt_nI _ _ hi, Nat.testBit_or, Nat.testBit_two_pow]
  congr 1
  by_cases h : i = k
  · subst h; simp
  · simp [h, Ne.symm h]
theorem i32_lt {x y : Int32} : x < y ↔ x.toInt < y.toInt := Int32.lt_iff_toInt_lt
theorem i32_le {x y : Int32} : x ≤ y ↔ x.toInt ≤ y.toInt := Int32.le_iff_toInt_le
theorem sk_inj {a b : Bool} : sk_i a = sk_i b ↔ a = b := by cases a <;> cases b <;> decide
theorem sk_1 {a : Bool} : (sk_i a = 1) ↔ a = true := by cases a <;> decide
theorem sk_0 {a : Bool} : (sk_i a = 0) ↔ a = false := by cases a <;> decide
/-! WHAT BOTH DO, over a plan P (told, kind, light, length, from, until, after), a state st (now, in, had, waited, film, lamps, silk, tries), a sky K -/
abbrev pln : Type := Nat → Nat → Int32
def sLt (P : pln) (st : Nat → Int32) (K : Nat → Bool) (k m : Nat) : Bool := if P 1 k = 2 then true else if P 1 k = 1 ∧ st 5 = 1 then true else if P 1 k = 1 ∧ st 6 = 1 then false else K m
def sLit (P : pln) (st : Nat → Int32) (K : Nat → Bool) (k m : Nat) : Bool := decide (P 1 k = 2) || decide (P 2 k = 0) || (decide (P 2 k = 1) == sLt P st K k m)
def sMin (P : pln) (st : Nat → Int32) (K : Nat → Bool) (D k m : Nat) : Int32 := if nI m < P 4 k then 4 else if nI m ≤ P 5 k then (if sLit P st K k m = true then (if nI m + P 3 k ≤ nI D then 0 else 6) else 5) else 4
def sBit (x k : Int32) : Bool := decide ((x >>> (k &&& 31)) &&& 1 = 1)
def sWhy (P : pln) (st : Nat → Int32) (K : Nat → Bool) (D k m : Nat) : Int32 := if sBit (st 2) (nI k) then 1 else if P 6 k ≠ -1 ∧ sBit (st 2) (P 6 k) = false then 2 else if (decide (P 1 k = 2) == decide (st 1 = 1)) = false then 3 else sMin P st K D k m
/-- minutes from j on, at most f, whose sky is v -/
def rl (K : Nat → Bool) (v : Bool) : Nat → Nat → Nat
  | 0, _ => 0
  | f + 1, j => if K j = v then rl K v f (j + 1) + 1 else 0
theorem rl_s (K : Nat → Bool) (v : Bool) (f j : Nat) : rl K v (f + 1) j = if K j = v then rl K v f (j + 1) + 1 else 0 := rfl
def stays (K : Nat → Bool) (D m : Nat) : Nat := rl K (K m) (D - m) m
theorem rl_le (K : Nat → Bool) (v : Bool) : ∀ f j, rl K v f j ≤ f
  | 0, _ => Nat.le_refl 0
  | f + 1, j => by
    unfold rl
    have := rl_le K v f (j + 1)
    split <;> omega
theorem stays_pos {K : Nat → Bool} {D m : Nat} (h : m < D) : 1 ≤ stays K D m := by
  unfold stays
  obtain ⟨f, hf⟩ : ∃ f, D - m = f + 1 := ⟨D - m - 1, by omega⟩
  rw [hf]
  unfold rl
  rw [if_pos rfl]
  omega
theorem stays_step {K : Nat → Bool} {D m : Nat} (h : m < D) : stays K D m = if m + 1 < D ∧ K (m + 1) = K m then stays K D (m + 1) + 1 else 1 := by
  unfold stays
  obtain ⟨f, hf⟩ : ∃ f, D - m = f + 1 := ⟨D - m - 1, by omega⟩
  rw [hf]
  have hf2 : D - (m + 1) = f := by omega
  rw [hf2, rl_s, if_pos rfl]
  cases f with
  | zero =>
    rw [if_neg (by omega)]
    rfl
  | succ f =>
    by_cases hk : K (m + 1) = K m
    · rw [if_pos ⟨by omega, hk⟩, hk]
    · rw [if_neg (fun q => hk q.2), rl_s, if_neg hk]
/-- the row of light that a shot has -/
def sEnd (P : pln) (st : Nat → Int32) (K : Nat → Bool) (k m : Nat) : Nat → Nat → Bool
  | 0, _ => true
  | f + 1, i => if sLt P st K k (m + i) = sLt P st K k m then sEnd P st K k m f (i + 1) else false
def sGo (P : pln) (st : Nat → Int32) (K : Nat → Bool) (k m : Nat) : Nat → Nat → Nat
  | 0, i => i
  | f + 1, i => if sLt P st K k (m + i) = sLt P st K k m then sGo P st K k m f (i + 1) else i + 1
theorem sEnd_s (P : pln) (st : Nat → Int32) (K : Nat → Bool) (k m f i : Nat) : sEnd P st K k m (f + 1) i = if sLt P st K k (m + i) = sLt P st K k m then sEnd P st K k m f (i + 1) else false := rfl
theorem sGo_s (P : pln) (st : Nat → Int32) (K : Nat → Bool) (k m f i : Nat) : sGo P st K k m (f + 1) i = if sLt P st K k (m + i) = sLt P st K k m then sGo P st K k m f (i + 1) else i + 1 := rfl
theorem sg_ext {s t : sg} (h : ∀ a j, s.1 a j = t.1 a j) (h2 : s.2 = t.2) : s = t := Prod.ext (funext fun a => funext fun j => h a j) h2
