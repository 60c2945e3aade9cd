/- needs: 22.mday -/
/-! the reference's rows are copied -/
theorem sA_up (s : sg) (a : Nat) (f : Nat → Int32) (j : Nat) (x : Int32) : sI (sA s a f) a j x = sA s a (fun j' => if j' = j then x else f j') := by
  refine sg_ext (fun a' j' => ?_) rfl
  simp only [sI_1, sA_1]
  by_cases ha : a' = a <;> by_cases hj : j' = j <;> simp [ha, hj]
theorem sA_id (s : sg) (a : Nat) : sA s a (s.1 a) = s := by
  refine sg_ext (fun a' j' => ?_) rfl
  simp only [sA_1]
  by_cases ha : a' = a <;> simp [ha]
theorem sA_sA (s : sg) (a : Nat) (f g : Nat → Int32) : sA (sA s a f) a g = sA s a g := by
  refine sg_ext (fun a' j' => ?_) rfl
  simp only [sA_1]
  by_cases ha : a' = a <;> simp [ha]
theorem sA_at (s : sg) (a : Nat) (f : Nat → Int32) (j : Nat) : (sA s a f).1 a j = f j := by simp [sA_1]
theorem sA_ne (s : sg) {a a' : Nat} (f : Nat → Int32) (j : Nat) (h : a' ≠ a) : (sA s a f).1 a' j = s.1 a' j := by simp [sA_1, h]
theorem nI_div {a b : Nat} (ha : a < 2 ^ 31) (hb : b < 2 ^ 31) (h0 : 0 < b) : nI a / nI b = nI (a / b) := by
  have h1 : nI b ≠ -1 := by
    intro q
    have := congrArg Int32.toInt q
    rw [nI_toInt hb] at this
    have e : (-1 : Int32).toInt = -1 := by decide
    omega
  apply Int32.toInt_inj.mp
  rw [Int32.toInt_div_of_ne_right _ _ h1, nI_toInt ha, nI_toInt hb, nI_toInt (Nat.lt_of_le_of_lt (Nat.div_le_self a b) ha)]
  rfl
theorem nI_mul (a b : Nat) : nI a * nI b = nI (a * b) := (Int32.ofNat_mul a b).symm
theorem nI_sub {a b : Nat} (h : b ≤ a) : nI a - nI b = nI (a - b) := by
  have h1 : nI a = nI (a - b) + nI b := by rw [nI_add, Nat.sub_add_cancel h]
  rw [h1, Int32.add_sub_cancel]
theorem nI_rem {a b : Nat} (ha : a < 2 ^ 31) (hb : b < 2 ^ 31) (h0 : 0 < b) : nI a - nI a / nI b * nI b = nI (a % b) := by
  rw [nI_div ha hb h0, nI_mul, nI_sub (Nat.div_mul_le_self a b)]
  congr 1
  have := Nat.div_add_mod a b
  rw [Nat.mul_comm] at this
  omega
theorem dv_nI {a b : Nat} (ha : a < 2 ^ 31) (hb : b < 2 ^ 31) (h0 : 0 < b) : dvI (nI a) (nI b) = some (nI (a / b)) := by
  unfold dvI
  rw [if_neg (nI_ne0 h0 hb), nI_div ha hb h0]
theorem rm_nI {a b : Nat} (ha : a < 2 ^ 31) (hb : b < 2 ^ 31) (h0 : 0 < b) : rmI (nI a) (nI b) = some (nI (a % b)) := by
  unfold rmI
  rw [if_neg (nI_ne0 h0 hb), nI_rem ha hb h0]
section MC2
variable {N : Nat} {s : sg} {K : Nat → Bool}
theorem m_be2 {a b n : Nat} (hab : b ≠ a) (ha : kc a = 20) (hn : kn a = n) (hb : kc b = 20) (hbn : kn b = n) (hn2 : n ≤ 1300) : ∀ (f i : Nat), n - i < f → i ≤ n → lX12_be_2 N f a b (nI i) (mk (sA s a (fun j => if j < i then s.1 b j else s.1 a j))) = some (.inl (), mk (sA s a (fun j => if j < n then s.1 b j else s.1 a j))) := by
  intro f
  induction f with
  | zero => intro i h; omega
  | succ f ih =>
    intro i hf hi
    show bX12_be_2 N (lX12_be_2 N f) a b (nI i) _ = _
    unfold bX12_be_2
    simp (decide := true) only [Option.bind_some, cS_inl, cS_inr, gI_k, gR_k, pI_k, pR_k, cV_k, aI_k, tI_k, rZ_0, rZ_1, rZ_i, aN_k, ha, hn, show Int32.ofNat n = nI n from rfl]
    by_cases h1 : n ≤ i
    · rw [if_pos (nI_le h1 (by omega)), show i = n by omega]
    · have i1 : inB (nI i) n = true := inA_nI (by omega) (by omega)
      rw [if_neg (nI_ge (by omega) (by omega))]
      simp (decide := true) only [Option.bind_some, cS_inl, cS_inr, gI_k, gR_k, pI_k, pR_k, cV_k, aI_k, tI_k, rZ_0, rZ_1, rZ_i, ha, hn, hb, hbn, i1, nI_clamp (show i < 2 ^ 31 by omega), sA_ne s _ i hab, sA_up, nI_1]
      have e : (fun j' => if j' = i then s.1 b i else if j' < i then s.1 b j' else s.1 a j') = (fun j => if j < i + 1 then s.1 b j else s.1 a j) := by
        funext j
        by_cases h2 : j = i
        · subst h2; simp
        · by_cases h3 : j < i
          · simp [h2, h3, show j < i + 1 by omega]
          · simp [h2, h3, show ¬ j < i + 1 by omega]
      rw [e]
      exact ih (i + 1) (by omega) (by omega)
theorem m_be {a b n : Nat} (hN : 2000 ≤ N) (hab : b ≠ a) (ha : kc a = 20) (hn : kn a = n) (hb : kc b = 20) (hbn : kn b = n) (hn2 : n ≤ 1300) : fX12_be N a b (mk s) = some (.inl (), mk (sA s a (fun j => if j < n then s.1 b j else s.1 a j))) := by
  unfold fX12_be bX12_be_0
  have h := m_be2 (N := N) (s := s) hab ha hn hb hbn hn2 N 0 (by omega) (by omega)
  simp only [Nat.not_lt_zero, if_false] at h
  rw [show (fun j => s.1 a j) = s.1 a from rfl, sA_id] at h
  exact h
/-- thirty minutes of a sky in one number -/
def pw (K : Nat → Bool) (k : Nat) : Nat → Int32
  | 0 => 0
  | i + 1 => pw K k i ||| (sk_i (K (30 * k + i)) <<< (nI i &&& 31))
theorem pw_s (K : Nat → Bool) (k i : Nat) : pw K k (i + 1) = pw K k i ||| (sk_i (K (30 * k + i)) <<< (nI i &&& 31)) := rfl
theorem bt_sk (b : Bool) (i : Nat) (hi : i < 32) : bt (sk_i b) i = (b && decide (i = 0)) := by
  cases b
  · rw [show sk_i false = 0 from rfl, b_0]; simp
  · rw [show sk_i true = 1 from rfl, b_1 i hi]; simp
theorem bt_pw (K : Nat → Bool) (k : Nat) : ∀ n, n ≤ 30 → ∀ i, i < 32 → bt (pw K k n) i = (decide (i < n) && K (30 * k + i))
  | 0, _, i, _ => by simp [pw, b_0]
  | n + 1, hn, i, hi => by
    rw [pw_s, b_or, bt_pw K k n (by omega) i hi, b_shl n (by omega) _ hi]
    by_cases h1 : i < n
    · simp [h1, show i < n + 1 by omega, show ¬ n ≤ i by omega]
    · by_cases h2 : i = n
      · subst h2
        rw [bt_sk _ _ (by omega)]
        simp
      · rw [bt_sk _ _ (by omega)]
        simp [h1, show ¬ i < n + 1 by omega, show ¬ i - n = 0 by omega]
theorem m_pack49 {a : Nat} {k36 : Nat → Nat → Int32 → Int32 → mm_C → mR Unit} {v3 : Int32} {k : Nat} (hK : mSky s K) (hk : k < 16) : ∀ (f i : Nat), 30 - i < f → i ≤ 30 → lX12_pack_49 N k36 f 419 a v3 (nI k) (pw K k i) (nI i) (mk s) = bX12_pack_83 N k36 419 a v3 (nI k) (pw K k 30) (mk s) := by
  intro f
  induction f with
  | zero => intro i h; omega
  | succ f ih =>
    intro i hf hi
    show bX12_pack_49 N k36 (lX12_pack_49 N k36 f) 419 a v3 (nI k) (pw K k i) (nI i) (mk s) = _
    unfold bX12_pack_49
    by_cases h1 : 30 ≤ i
    · rw [if_pos (show (30 : Int32) ≤ nI i from nI_le (a := 30) h1 (by omega)), show i = 30 by omega]
    · rw [if_neg (show ¬ (30 : Int32) ≤ nI i from nI_ge (b := 30) (by omega) (by omega))]
      have i1 : inB (nI (30 * k + i)) 960 = true := inA_nI (by omega) (by omega)
      simp (decide := true) only [Option.bind_some, cS_inl, cS_inr, gI_k, gR_k, pI_k, pR_k, cV_k, aI_k, tI_k, rZ_0, rZ_1, rZ_i, rf_12_0, rf_12_1, rf_12_3, rf_12_4, rf_12_5, rf_12_6, rf_12_7, rf_12_8, rf_12_9, rf_12_10, rf_12_11, rf_12_12, rf_12_13, rf_12_14, rf_12_15, rf_12_26, rf_12_27, rf_12_31, rf_12_32, rf_12_33, rf_12_34, rf_12_41, rf_12_44, rf_12_47, rf_12_48, rf_12_49, rf_12_51, rf_12_55, rf_12_56, rf_12_57, rf_12_58, rf_12_59, rf_12_60, Nat.reduceAdd, kc_419, kc_420, kc_421, kc_422, kc_423, kc_424, kc_425, kc_426, kc_427, kc_428, kc_429, kc_430, kc_431, kc_432, kc_433, kc_434, kc_435, kc_436, kc_437, kc_438, kc_439, kc_440, kc_441, kc_442, kc_443, kc_444, kc_445, kc_446, kc_447, kc_448, kc_449, kc_450, kc_451, kc_452, kc_453, kn_420, kn_421, kn_422, kn_423, kn_424, kn_425, kn_426, kn_427, kn_428, kn_429, kn_430, kn_431, kn_432, kn_433, kn_434, kn_435, kn_436, kn_437, kn_438, kn_439, kn_440, kn_441, kn_442, kn_443, kn_444, kn_445, kn_446, kn_447, kn_448, kn_449, kn_450, kn_451, kn_452, kn_453, show (30 : Int32) = nI 30 from rfl, nI_mul, nI_add, i1, nI_clamp (show 30 * k + i < 2 ^ 31 by omega), hK (30 * k + i) (by omega), nI_1]
      rw [← pw_s]
      exact ih (i + 1) (by omega) (by omega)
theorem m_pack36 {a t : Nat} (ha : kc a = 20) (hn : t + 16 ≤ kn a) (hn2 : t < 1400) (ha9 : a ≠ 429) (hN : 1000 ≤ N) (hK : mSky s K) : ∀ (f k : Nat), 16 - k < f → k ≤ 16 → lX12_pack_36 N f 419 a (nI t) (nI k) (mk (sA s a (fun j => if t ≤ j ∧ j < t + k then pw K (j - t) 30 else s.1 a j))) = some (.inl (), mk (sA s a (fun j => if t ≤ j ∧ j < t + 16 then pw K (j - t) 30 else s.1 a j))) := by
  intro f
  induction f with
  | zero => intro i h; omega
  | succ f ih =>
    intro k hf hk
    show bX12_pack_36 N (lX12_pack_36 N f) 419 a (nI t) (nI k) _ = _
    unfold bX12_pack_36
    by_cases h1 : 16 ≤ k
    · rw [if_pos (show (16 : Int32) ≤ nI k from nI_le (a := 16) h1 (by omega)), show k = 16 by omega]
    · rw [if_neg (show ¬ (16 : Int32) ≤ nI k from nI_ge (b := 16) (by omega) (by omega))]
      have hK' : mSky (sA s a (fun j => if t ≤ j ∧ j < t + k then pw K (j - t) 30 else s.1 a j)) K := fun m hm => by rw [sA_ne _ _ _ (Ne.symm ha9)]; exact hK m hm
      have h9 := m_pack49 (N := N) (a := a) (k36 := lX12_pack_36 N f) (v3 := nI t) (k := k) hK' (by omega) N 0 (by omega) (by omega)
      refine h9.trans ?_
      unfold bX12_pack_83
      have i1 : inB (nI (t + k)) (kn a) = true := inA_nI (by omega) (by omega)
      simp (decide := true) only [Option.bind_some, cS_inl, cS_inr, gI_k, gR_k, pI_k, pR_k, cV_k, aI_k, tI_k, rZ_0, rZ_1, rZ_i, nI_add, ha, i1, nI_clamp (show t + k < 2 ^ 31 by omega), sA_up, nI_1]
      have e : (fun j' => if j' = t + k then pw K k 30 else if t ≤ j' ∧ j' < t + k then pw K (j' - t) 30 else s.1 a j') = (fun j => if t ≤ j ∧ j < t + (k + 1) then pw K (j - t) 30 else s.1 a j) := by
        funext j
        by_cases h2 : j = t + k
        · subst h2; simp
        · by_cases h3 : t ≤ j ∧ j < t + k
          · rw [if_neg h2, if_pos h3, if_pos ⟨h3.1, by omega⟩]
          · rw [if_neg h2, if_neg h3, if_neg (by omega)]
      rw [e]
      exact ih (k + 1) (by omega) (by omega)
theorem m_pack2 {a t : Nat} (ha : kc a = 20) (hn : t + 31 ≤ kn a) (hn2 : t < 1300) (ha9 : a ≠ 429) (ha5 : a ≠ 435) (hN : 1000 ≤ N) (hK : mSky s K) : ∀ (f k : Nat), 15 - k < f → k ≤ 15 → lX12_pack_2 N f 419 a (nI t) (nI k) (mk (sA s a (fun j => if t ≤ j ∧ j < t + k then s.1 435 (j - t) else s.1 a j))) = some (.inl (), mk (sA s a (fun j => if t + 15 ≤ j ∧ j < t + 15 + 16 then pw K (j - (t + 15)) 30 else if t ≤ j ∧ j < t + 15 then s.1 435 (j - t) else s.1 a j))) := by
  intro f
  induction f with
  | zero => intro i h; omega
  | succ f ih =>
    intro k hf hk
    show bX12_pack_2 N (lX12_pack_2 N f) 419 a (nI t) (nI k) _ = _
    unfold bX12_pack_2
    by_cases h1 : 15 ≤ k
    · rw [if_pos (show (15 : Int32) ≤ nI k from nI_le (a := 15) h1 (by omega)), show k = 15 by omega]
      unfold bX12_pack_25
      have hK' : mSky (sA s a (fun j => if t ≤ j ∧ j < t + 15 then s.1 435 (j - t) else s.1 a j)) K := fun m hm => by rw [sA_ne _ _ _ (Ne.symm ha9)]; exact hK m hm
      have h9 := m_pack36 (N := N) (a := a) (t := t + 15) ha (by omega) (by omega) ha9 hN hK' N 0 (by omega) (by omega)
      have e0 : nI t + 7 + 8 = nI (t + 15) := by rw [show (7 : Int32) = nI 7 from rfl, show (8 : Int32) = nI 8 from rfl, nI_add, nI_add]
      rw [e0]
      have e1 : (fun j => if t + 15 ≤ j ∧ j < t + 15 + 0 then pw K (j - (t + 15)) 30 else (sA s a (fun j => if t ≤ j ∧ j < t + 15 then s.1 435 (j - t) else s.1 a j)).1 a j) = (sA s a (fun j => if t ≤ j ∧ j < t + 15 then s.1 435 (j - t) else s.1 a j)).1 a := by
        funext j
        rw [if_neg (by omega)]
      rw [e1, sA_id, sA_sA] at h9
      refine h9.trans ?_
      congr 4
      funext j
      rw [sA_at]
    · rw [if_neg (show ¬ (15 : Int32) ≤ nI k from nI_ge (b := 15) (by omega) (by omega))]
      have i1 : inB (nI (t + k)) (kn a) = true := inA_nI (by omega) (by omega)
      have i2 : inB (nI k) 15 = true := inA_nI (by omega) (by omega)
      simp (decide := true) only [Option.bind_some, cS_inl, cS_inr, gI_k, gR_k, pI_k, pR_k, cV_k, aI_k, tI_k, rZ_0, rZ_1, rZ_i, rf_12_0, rf_12_1, rf_12_3, rf_12_4, rf_12_5, rf_12_6, rf_12_7, rf_12_8, rf_12_9, rf_12_10, rf_12_11, rf_12_12, rf_12_13, rf_12_14, rf_12_15, rf_12_26, rf_12_27, rf_12_31, rf_12_32, rf_12_33, rf_12_34, rf_12_41, rf_12_44, rf_12_47, rf_12_48, rf_12_49, rf_12_51, rf_12_55, rf_12_56, rf_12_57, rf_12_58, rf_12_59, rf_12_60, Nat.reduceAdd, kc_419, kc_420, kc_421, kc_422, kc_423, kc_424, kc_425, kc_426, kc_427, kc_428, kc_429, kc_430, kc_431, kc_432, kc_433, kc_434, kc_435, kc_436, kc_437, kc_438, kc_439, kc_440, kc_441, kc_442, kc_443, kc_444, kc_445, kc_446, kc_447, kc_448, kc_449, kc_450, kc_451, kc_452, kc_453, kn_420, kn_421, kn_422, kn_423, kn_424, kn_425, kn_426, kn_427, kn_428, kn_429, kn_430, kn_431, kn_432, kn_433, kn_434, kn_435, kn_436, kn_437, kn_438, kn_439, kn_440, kn_441, kn_442, kn_443, kn_444, kn_445, kn_446, kn_447, kn_448, kn_449, kn_450, kn_451, kn_452, kn_453, nI_add, ha, i1, i2, nI_clamp (show t + k < 2 ^ 31 by omega), nI_clamp (show k < 2 ^ 31 by omega), sA_ne s _ k (Ne.symm ha5), sA_up, nI_1]
      have e : (fun j' => if j' = t + k then s.1 435 k else if t ≤ j' ∧ j' < t + k then s.1 435 (j' - t) else s.1 a j') = (fun j => if t ≤ j ∧ j < t + (k + 1) then s.1 435 (j - t) else s.1 a j) := by
        funext j
        by_cases h2 : j = t + k
        · subst h2; simp
        · by_cases h3 : t ≤ j ∧ j < t + k
          · rw [if_neg h2, if_pos h3, if_pos ⟨h3.1, by omega⟩]
          · rw [if_neg h2, if_neg h3, if_neg (by omega)]
      rw [e]
      exact ih (k + 1) (by omega) (by omega)
/-- a state and its sky, packed from t on -/
def pkd (f : Nat → Int32) (t : Nat) (st : Nat → Int32) (K : Nat → Bool) : Nat → Int32 := fun j => if t + 15 ≤ j ∧ j < t + 15 + 16 then pw K (j - (t + 15)) 30 else if t ≤ j ∧ j < t + 15 then st (j - t) else f j
theorem m_pack {a t : Nat} (ha : kc a = 20) (hn : t + 31 ≤ kn a) (hn2 : t < 1300) (ha9 : a ≠ 429) (ha5 : a ≠ 435) (hN : 1000 ≤ N) (hK : mSky s K) : fX12_pack N 419 a (nI t) (mk s) = some (.inl (), mk (sA s a (pkd (s.1 a) t (s.1 435) K))) := by
  unfold fX12_pack bX12_pack_0
  have h := m_pack2 (N := N) (s := s) ha hn hn2 ha9 ha5 hN hK N 0 (by omega) (by omega)
  have e1 : (fun j => if t ≤ j ∧ j < t + 0 then s.1 435 (j - t) else s.1 a j) = s.1 a := by
    funext j
    rw [if_neg (by omega)]
  rw [e1, sA_id] at h
  exact h
theorem m_un36 {a t : Nat} (ha : kc a = 20) (hn : t + 16 ≤ kn a) (hn2 : t < 1400) (ha9 : a ≠ 429) : ∀ (f m : Nat), 480 - m < f → m ≤ 480 → lX12_unpack_36 N f 419 a (nI t) (nI m) (mk (sA s 429 (fun j => if j < m then sk_i (bt (s.1 a (t + j / 30)) (j % 30)) else s.1 429 j))) = some (.inl (), mk (sA s 429 (fun j => if j < 480 then sk_i (bt (s.1 a (t + j / 30)) (j % 30)) else s.1 429 j))) := by
  intro f
  induction f with
  | zero => intro i h; omega
  | succ f ih =>
    intro m hf hm
    show bX12_unpack_36 N (lX12_unpack_36 N f) 419 a (nI t) (nI m) _ = _
    unfold bX12_unpack_36
    by_cases h1 : 480 ≤ m
    · rw [if_pos (show (480 : Int32) ≤ nI m from nI_le (a := 480) h1 (by omega)), show m = 480 by omega]
    · rw [if_neg (show ¬ (480 : Int32) ≤ nI m from nI_ge (b := 480) (by omega) (by omega))]
      have hq : m / 30 < 16 := by omega
      have hd : dvI (nI m) 30 = some (nI (m / 30)) := dv_nI (b := 30) (by omega) (by omega) (by omega)
      have hr : rmI (nI m) 30 = some (nI (m % 30)) := rm_nI (b := 30) (by omega) (by omega) (by omega)
      have i1 : inB (nI (t + m / 30)) (kn a) = true := inA_nI (by omega) (by omega)
      have i2 : inB (nI m) 960 = true := inA_nI (by omega) (by omega)
      have hb : ∀ x : Int32, (x >>> (nI (m % 30) &&& 31)) &&& 1 = sk_i (bt x (m % 30)) := by
        intro x
        have hh := bit_of x (m % 30) (by omega)
        refine b_ext fun i hi => ?_
        rw [b_and, bt_sk _ _ hi, b_1 i hi, b_sshr _ (by omega) _ hi]
        by_cases h0 : i = 0
        · subst h0; simp [show m % 30 < 32 by omega]
        · simp [h0]
      simp (decide := true) only [Option.bind_some, cS_inl, cS_inr, gI_k, gR_k, pI_k, pR_k, cV_k, aI_k, tI_k, rZ_0, rZ_1, rZ_i, rf_12_0, rf_12_1, rf_12_3, rf_12_4, rf_12_5, rf_12_6, rf_12_7, rf_12_8, rf_12_9, rf_12_10, rf_12_11, rf_12_12, rf_12_13, rf_12_14, rf_12_15, rf_12_26, rf_12_27, rf_12_31, rf_12_32, rf_12_33, rf_12_34, rf_12_41, rf_12_44, rf_12_47, rf_12_48, rf_12_49, rf_12_51, rf_12_55, rf_12_56, rf_12_57, rf_12_58, rf_12_59, rf_12_60, Nat.reduceAdd, kc_419, kc_420, kc_421, kc_422, kc_423, kc_424, kc_425, kc_426, kc_427, kc_428, kc_429, kc_430, kc_431, kc_432, kc_433, kc_434, kc_435, kc_436, kc_437, kc_438, kc_439, kc_440, kc_441, kc_442, kc_443, kc_444, kc_445, kc_446, kc_447, kc_448, kc_449, kc_450, kc_451, kc_452, kc_453, kn_420, kn_421, kn_422, kn_423, kn_424, kn_425, kn_426, kn_427, kn_428, kn_429, kn_430, kn_431, kn_432, kn_433, kn_434, kn_435, kn_436, kn_437, kn_438, kn_439, kn_440, kn_441, kn_442, kn_443, kn_444, kn_445, kn_446, kn_447, kn_448, kn_449, kn_450, kn_451, kn_452, kn_453, hd, hr, nI_add, ha, i1, i2, nI_clamp (show t + m / 30 < 2 ^ 31 by omega), nI_clamp (show m < 2 ^ 31 by omega), sA_ne s _ (t + m / 30) ha9, sA_up, nI_1, hb]
      have e : (fun j' => if j' = m then sk_i (bt (s.1 a (t + m / 30)) (m % 30)) else if j' < m then sk_i (bt (s.1 a (t + j' / 30)) (j' % 30)) else s.1 429 j') = (fun j => if j < m + 1 then sk_i (bt (s.1 a (t + j / 30)) (j % 30)) else s.1 429 j) := by
        funext j
        by_cases h2 : j = m
        · subst h2; simp
        · by_cases h3 : j < m
          · rw [if_neg h2, if_pos h3, if_pos (by omega)]
          · rw [if_neg h2, if_neg h3, if_neg (by omega)]
      rw [e]
      exact ih (m + 1) (by omega) (by omega)
theorem m_un2 {a t : Nat} (ha : kc a = 20) (hn : t + 31 ≤ kn a) (hn2 : t < 1300) (ha9 : a ≠ 429) (ha5 : a ≠ 435) (hN : 1000 ≤ N) : ∀ (f k : Nat), 15 - k < f → k ≤ 15 → lX12_unpack_2 N f 419 a (nI t) (nI k) (mk (sA s 435 (fun j => if j < k then s.1 a (t + j) else s.1 435 j))) = some (.inl (), mk (sA (sA s 435 (fun j => if j < 15 then s.1 a (t + j) else s.1 435 j)) 429 (fun j => if j < 480 then sk_i (bt (s.1 a (t + 15 + j / 30)) (j % 30)) else s.1 429 j))) := by
  intro f
  induction f with
  | zero => intro i h; omega
  | succ f ih =>
    intro k hf hk
    show bX12_unpack_2 N (lX12_unpack_2 N f) 419 a (nI t) (nI k) _ = _
    unfold bX12_unpack_2
    by_cases h1 : 15 ≤ k
    · rw [if_pos (show (15 : Int32) ≤ nI k from nI_le (a := 15) h1 (by omega)), show k = 15 by omega]
      unfold bX12_unpack_25
      have e0 : nI t + 7 + 8 = nI (t + 15) := by rw [show (7 : Int32) = nI 7 from rfl, show (8 : Int32) = nI 8 from rfl, nI_add, nI_add]
      rw [e0]
      have h9 := m_un36 (N := N) (s := sA s 435 (fun j => if j < 15 then s.1 a (t + j) else s.1 435 j)) (a := a) (t := t + 15) ha (by omega) (by omega) ha9 N 0 (by omega) (by omega)
      have e1 : (fun j => if j < 0 then sk_i (bt ((sA s 435 (fun j => if j < 15 then s.1 a (t + j) else s.1 435 j)).1 a (t + 15 + j / 30)) (j % 30)) else (sA s 435 (fun j => if j < 15 then s.1 a (t + j) else s.1 435 j)).1 429 j) = (sA s 435 (fun j => if j < 15 then s.1 a (t + j) else s.1 435 j)).1 429 := by
        funext j
        rw [if_neg (by omega)]
      rw [e1, sA_id] at h9
      refine h9.trans ?_
      congr 4
      funext j
      rw [sA_ne _ _ _ ha5, sA_ne _ _ _ (show 429 ≠ 435 by omega)]
    · rw [if_neg (show ¬ (15 : Int32) ≤ nI k from nI_ge (b := 15) (by omega) (by omega))]
      have i1 : inB (nI (t + k)) (kn a) = true := inA_nI (by omega) (by omega)
      have i2 : inB (nI k) 15 = true := inA_nI (by omega) (by omega)
      simp (decide := true) only [Option.bind_some, cS_inl, cS_inr, gI_k, gR_k, pI_k, pR_k, cV_k, aI_k, tI_k, rZ_0, rZ_1, rZ_i, rf_12_0, rf_12_1, rf_12_3, rf_12_4, rf_12_5, rf_12_6, rf_12_7, rf_12_8, rf_12_9, rf_12_10, rf_12_11, rf_12_12, rf_12_13, rf_12_14, rf_12_15, rf_12_26, rf_12_27, rf_12_31, rf_12_32, rf_12_33, rf_12_34, rf_12_41, rf_12_44, rf_12_47, rf_12_48, rf_12_49, rf_12_51, rf_12_55, rf_12_56, rf_12_57, rf_12_58, rf_12_59, rf_12_60, Nat.reduceAdd, kc_419, kc_420, kc_421, kc_422, kc_423, kc_424, kc_425, kc_426, kc_427, kc_428, kc_429, kc_430, kc_431, kc_432, kc_433, kc_434, kc_435, kc_436, kc_437, kc_438, kc_439, kc_440, kc_441, kc_442, kc_443, kc_444, kc_445, kc_446, kc_447, kc_448, kc_449, kc_450, kc_451, kc_452, kc_453, kn_420, kn_421, kn_422, kn_423, kn_424, kn_425, kn_426, kn_427, kn_428, kn_429, kn_430, kn_431, kn_432, kn_433, kn_434, kn_435, kn_436, kn_437, kn_438, kn_439, kn_440, kn_441, kn_442, kn_443, kn_444, kn_445, kn_446, kn_447, kn_448, kn_449, kn_450, kn_451, kn_452, kn_453, nI_add, ha, i1, i2, nI_clamp (show t + k < 2 ^ 31 by omega), nI_clamp (show k < 2 ^ 31 by omega), sA_ne s _ (t + k) ha5, sA_up, nI_1]
      have e : (fun j' => if j' = k then s.1 a (t + k) else if j' < k then s.1 a (t + j') else s.1 435 j') = (fun j => if j < k + 1 then s.1 a (t + j) else s.1 435 j) := by
        funext j
        by_cases h2 : j = k
        · subst h2; simp
        · by_cases h3 : j < k
          · rw [if_neg h2, if_pos h3, if_pos (by omega)]
          · rw [if_neg h2, if_neg h3, if_neg (by omega)]
      rw [e]
      exact ih (k + 1) (by omega) (by omega)
theorem m_unpack {a t : Nat} (ha : kc a = 20) (hn : t + 31 ≤ kn a) (hn2 : t < 1300) (ha9 : a ≠ 429) (ha5 : a ≠ 435) (hN : 1000 ≤ N) : fX12_unpack N 419 a (nI t) (mk s) = some (.inl (), mk (sA (sA s 435 (fun j => if j < 15 then s.1 a (t + j) else s.1 435 j)) 429 (fun j => if j < 480 then sk_i (bt (s.1 a (t + 15 + j / 30)) (j % 30)) else s.1 429 j))) := by
  unfold fX12_unpack bX12_unpack_0
  have h := m_un2 (N := N) (s := s) ha hn hn2 ha9 ha5 hN N 0 (by omega) (by omega)
  simp only [Nat.not_lt_zero, if_false] at h
  rw [show (fun j => s.1 435 j) = s.1 435 from rfl, sA_id] at h
  exact h
end MC2
