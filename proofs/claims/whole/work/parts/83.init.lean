/- needs: 82.rplan -/
/-! the two objects as they are made -/
def ini : Option mm_C := Option.bind (mkO c00 0 11) fun c1 => Option.bind (nX11_init 1 0 c1) fun c2 => Option.bind (mkO c2 419 12) fun c3 => Option.bind (nX12_init 420 419 c3) fun c4 => mkL c4 453
def C5 : mm_C := ini.getD c00
/-- the numbers and references of contents -/
def exI (e : Option mm_E) (j : Nat) : Int32 := match e with
  | some (.inl (_, _, .inl f)) => f j
  | some (.inr (_, vs)) => (match vs[j]? with | some (.int x) => x | _ => 0)
  | _ => 0
def exR (e : Option mm_E) (j : Nat) : Nat := match e with
  | some (.inl (_, _, .inr (.inr (.inr (.inr f))))) => (f j).getD 0
  | some (.inr (_, vs)) => (match vs[j]? with | some (.ref x) => x | _ => 0)
  | _ => 0
def exL (e : Option mm_E) (j : Nat) : Int64 := match e with
  | some (.inl (_, _, .inr (.inl f))) => f j
  | _ => 0
def mkS (C : mm_C) : sg := (fun a => exI (C a), fun a => exR (C a), exL (C 453))
theorem mkS_1 (C : mm_C) (a : Nat) : (mkS C).1 a = exI (C a) := rfl
theorem mkS_2 (C : mm_C) (a : Nat) : (mkS C).2.1 a = exR (C a) := rfl
theorem mkS_3 (C : mm_C) : (mkS C).2.2 = exL (C 453) := rfl
def s00 : sg := mkS C5
/-- the shape of a cell -/
def shV (ci a j : Nat) (v : Value) (b : Bool) : Bool := match v, b with
  | .int _, true => true
  | .ref r, false => (match imK ci a j with | some x => decide (r = x) | none => true)
  | _, _ => false
def shL (ci a : Nat) : Nat → List Value → List Bool → Bool
  | _, [], [] => true
  | j, v :: vs, b :: bs => shV ci a j v b && shL ci a (j + 1) vs bs
  | _, _, _ => false
def shR (a ci n : Nat) (f : Nat → Option Nat) : Bool := (List.range n).all fun j => decide (f j = some ((imK ci a j).getD ((f j).getD 0)))
def shE (a : Nat) (k : Nat × Nat) (e : Option mm_E) : Bool := match e with
  | some (.inr (c, vs)) => decide (k.1 < 13) && decide (c = k.1) && shL k.1 a 0 vs (ftab.getD k.1 [])
  | some (.inl (ty, n, .inl _)) => decide (n = k.2) && (decide (k.1 = 20 ∧ ty = .int) || decide (k.1 = 21 ∧ ty = .byte) || decide (k.1 = 22 ∧ ty = .boolean))
  | some (.inl (ty, n, .inr (.inl _))) => decide (n = k.2) && decide (k.1 = 23 ∧ ty = .long ∧ a = 453)
  | some (.inl (ty, n, .inr (.inr (.inr (.inr f))))) => decide (n = k.2) && (decide (k.1 = 24 ∧ ty = .object "CloudTakes$Shot") || decide (k.1 = 25 ∧ ty = .object "CloudTakes$State") || decide (k.1 = 26 ∧ ty = .object "java/lang/String") || decide (k.1 = 27 ∧ ty = .array .int)) && shR a k.1 n f
  | _ => false
set_option maxRecDepth 100000 in
theorem ini_some : ini.isSome = true := by decide +kernel
set_option maxRecDepth 100000 in
theorem shp_all : ∀ a, a < 454 → shE a (kd a) (C5 a) = true := by decide +kernel
def goodE (e : mm_E) : Prop := ∀ ty n f, e = .inl (ty, n, .inr (.inr (.inr (.inr f)))) → ∀ j, n ≤ j → f j = none
def Pn (c : mm_C) : Prop := (∀ a, 454 ≤ a → c a = none) ∧ ∀ a e, c a = some e → goodE e
def bn (x : Option mm_C) : Prop := ∀ c', x = some c' → Pn c'
theorem Pn_cup {c : mm_C} {m : Nat} {e : mm_E} (h : Pn c) (hm : m < 454) (he : goodE e) : Pn (cup c m e) := by
  refine ⟨fun a ha => ?_, fun a e' h2 => ?_⟩
  · unfold cup
    rw [if_neg (by omega)]
    exact h.1 a ha
  · unfold cup at h2
    by_cases c1 : a = m
    · rw [if_pos c1] at h2
      rw [← Option.some.inj h2]
      exact he
    · rw [if_neg c1] at h2
      exact h.2 a e' h2
theorem Pn_lt {c : mm_C} {a : Nat} {e : mm_E} (h : Pn c) (h2 : c a = some e) : a < 454 := by
  by_cases c1 : a < 454
  · exact c1
  · rw [h.1 a (by omega)] at h2
    cases h2
theorem gd_inr (x : Nat × List Value) : goodE (.inr x) := fun _ _ _ h => by cases h
theorem gd_int (ty : FieldType) (n : Nat) (f : Nat → Int32) : goodE (.inl (ty, n, .inl f)) := fun _ _ _ h => by cases h
theorem bn_some {c : mm_C} (h : Pn c) : bn (some c) := fun c' e => by rw [← Option.some.inj e]; exact h
theorem bn_bind {x : Option mm_C} {f : mm_C → Option mm_C} (h : bn x) (hf : ∀ c, Pn c → bn (f c)) : bn (Option.bind x f) := by
  cases x with
  | none => intro c' e; cases e
  | some c => exact hf c (h c rfl)
theorem bn_pV {c : mm_C} {o a b : Nat} {v : Value} (h : Pn c) : bn (pV c o a b v) := by
  intro c' e
  unfold pV at e
  split at e
  · rename_i a' fs hc
    split at e
    · rw [← Option.some.inj e]
      exact Pn_cup h (Pn_lt h hc) (gd_inr _)
    · cases e
  · cases e
theorem bn_pI {c : mm_C} {o a b : Nat} {v : Int32} {f : mm_C → Option mm_C} (h : Pn c) (hf : ∀ c, Pn c → bn (f c)) : bn (Option.bind (pI c o a b v) f) := bn_bind (bn_pV h) hf
theorem bn_pR {c : mm_C} {o a b v : Nat} {f : mm_C → Option mm_C} (h : Pn c) (hf : ∀ c, Pn c → bn (f c)) : bn (Option.bind (pR c o a b v) f) := bn_bind (bn_pV h) hf
theorem bn_gR {c : mm_C} {o a b : Nat} {f : Nat → Option mm_C} (hf : ∀ x, bn (f x)) : bn (Option.bind (gR c o a b) f) := by
  cases gR c o a b with
  | none => intro c' e; cases e
  | some x => exact hf x
theorem bn_mkO {c : mm_C} {m ci : Nat} {f : mm_C → Option mm_C} (h : Pn c) (hm : m < 454) (hf : ∀ c, Pn c → bn (f c)) : bn (Option.bind (mkO c m ci) f) := bn_bind (bn_some (Pn_cup h hm (gd_inr _))) hf
theorem bn_mkA {c : mm_C} {m n : Nat} {ty : FieldType} {f : mm_C → Option mm_C} (h : Pn c) (hm : m < 454) (hf : ∀ c, Pn c → bn (f c)) : bn (Option.bind (mkA c m ty n) f) := bn_bind (bn_some (Pn_cup h hm (gd_int _ _ _))) hf
theorem bn_mkR {c : mm_C} {m n : Nat} {cn : String} {f : mm_C → Option mm_C} (h : Pn c) (hm : m < 454) (hf : ∀ c, Pn c → bn (f c)) : bn (Option.bind (mkR c m cn n) f) := bn_bind (bn_some (Pn_cup h hm (fun ty n f e j hj => by cases e; rfl))) hf
theorem bn_mkM {c : mm_C} {m n k : Nat} {f : mm_C → Option mm_C} (h : Pn c) (hm : m + n < 454) (hf : ∀ c, Pn c → bn (f c)) : bn (Option.bind (mkM c m n k) f) := by
  refine bn_bind (bn_some ⟨fun a ha => ?_, fun a e he => ?_⟩) hf
  · unfold cmna
    rw [if_neg (by omega), if_neg (by omega)]
    exact h.1 a ha
  · unfold cmna at he
    by_cases c1 : a = m
    · rw [if_pos c1] at he
      rw [← Option.some.inj he]
      intro ty n' f' e2 j hj
      cases e2
      exact if_neg (by omega)
    · rw [if_neg c1] at he
      by_cases c2 : m < a ∧ a ≤ m + n
      · rw [if_pos c2] at he
        rw [← Option.some.inj he]
        exact gd_int _ _ _
      · rw [if_neg c2] at he
        exact h.2 a e he
theorem bn_tI {c : mm_C} {o : Nat} {i x : Int32} {f : mm_C → Option mm_C} (h : Pn c) (hf : ∀ c, Pn c → bn (f c)) : bn (Option.bind (tI c o i x) f) := by
  refine bn_bind ?_ hf
  intro c' e
  unfold tI at e
  split at e
  · rename_i n g hc
    split at e
    · rw [← Option.some.inj e]
      exact Pn_cup h (Pn_lt h hc) (gd_int _ _ _)
    · cases e
  · cases e
theorem gd_up {ty ty' : FieldType} {n : Nat} {f : Nat → Option Nat} {i : Int32} {r : Nat} (h : goodE (.inl (ty, n, .inr (.inr (.inr (.inr f)))))) (hi : inA i n) : goodE (.inl (ty', n, .inr (.inr (.inr (.inr (va_up f i.toNatClampNeg (some r))))))) := by
  intro t2 n2 f2 e j hj
  cases e
  unfold va_up
  have h1 : ¬ j = i.toNatClampNeg := fun z => hi (Or.inr (by omega))
  rw [if_neg h1]
  exact h _ _ _ rfl j hj
theorem bn_tR {c : mm_C} {cn : String} {ci o r : Nat} {i : Int32} {f : mm_C → Option mm_C} (h : Pn c) (hf : ∀ c, Pn c → bn (f c)) : bn (Option.bind (tR cn ci c o i r) f) := by
  refine bn_bind ?_ hf
  intro c' e
  unfold tR at e
  split at e
  · rename_i ty n g hc
    split at e
    · rename_i hq
      rw [← Option.some.inj e]
      exact Pn_cup h (Pn_lt h hc) (gd_up (h.2 _ _ hc) hq.2.1)
    · cases e
  · cases e
theorem bn_tS {c : mm_C} {o r : Nat} {i : Int32} {f : mm_C → Option mm_C} (h : Pn c) (hf : ∀ c, Pn c → bn (f c)) : bn (Option.bind (tS c o i r) f) := by
  refine bn_bind ?_ hf
  intro c' e
  unfold tS at e
  split at e
  · rename_i ty n g hc
    split at e
    · rename_i hq
      rw [← Option.some.inj e]
      exact Pn_cup h (Pn_lt h hc) (gd_up (h.2 _ _ hc) hq.2.1)
    · cases e
  · cases e
theorem pnX8 {n v0 : Nat} {c : mm_C} (h : Pn c) (hn : n + 1 ≤ 454) : bn (nX8_init n v0  c) := by
  unfold nX8_init
  refine bn_mkA h (by omega) (fun _ h => ?_)
  refine bn_pR h (fun _ h => ?_)
  exact bn_some h
theorem pnX7 {n v0 : Nat} {c : mm_C} (h : Pn c) (hn : n + 0 ≤ 454) : bn (nX7_init n v0  c) := by
  unfold nX7_init
  refine bn_pI h (fun _ h => ?_)
  refine bn_pI h (fun _ h => ?_)
  refine bn_pI h (fun _ h => ?_)
  refine bn_pI h (fun _ h => ?_)
  refine bn_pI h (fun _ h => ?_)
  refine bn_pI h (fun _ h => ?_)
  exact bn_some h
theorem pnX4 {n v0 : Nat} {c : mm_C} (h : Pn c) (hn : n + 3 ≤ 454) : bn (nX4_init n v0  c) := by
  unfold nX4_init
  refine bn_pI h (fun _ h => ?_)
  refine bn_mkA h (by omega) (fun _ h => ?_)
  refine bn_pR h (fun _ h => ?_)
  refine bn_pI h (fun _ h => ?_)
  refine bn_mkA h (by omega) (fun _ h => ?_)
  refine bn_pR h (fun _ h => ?_)
  refine bn_mkA h (by omega) (fun _ h => ?_)
  refine bn_pR h (fun _ h => ?_)
  refine bn_pI h (fun _ h => ?_)
  exact bn_some h
theorem pnX9 {n v0 : Nat} {c : mm_C} (h : Pn c) (hn : n + 3 ≤ 454) : bn (nX9_init n v0  c) := by
  unfold nX9_init
  refine bn_pI h (fun _ h => ?_)
  refine bn_pI h (fun _ h => ?_)
  refine bn_pI h (fun _ h => ?_)
  refine bn_pI h (fun _ h => ?_)
  refine bn_pI h (fun _ h => ?_)
  refine bn_pI h (fun _ h => ?_)
  refine bn_pI h (fun _ h => ?_)
  refine bn_mkA h (by omega) (fun _ h => ?_)
  refine bn_pR h (fun _ h => ?_)
  refine bn_mkO h (by omega) (fun _ h => ?_)
  refine bn_bind (pnX8 h (by omega)) (fun _ h => ?_)
  refine bn_pR h (fun _ h => ?_)
  exact bn_some h
theorem pnX3 {n v0 : Nat} {c : mm_C} (h : Pn c) (hn : n + 15 ≤ 454) : bn (nX3_init n v0  c) := by
  unfold nX3_init
  refine bn_pI h (fun _ h => ?_)
  refine bn_pI h (fun _ h => ?_)
  refine bn_pI h (fun _ h => ?_)
  refine bn_pI h (fun _ h => ?_)
  refine bn_pI h (fun _ h => ?_)
  refine bn_pI h (fun _ h => ?_)
  refine bn_mkR h (by omega) (fun _ h => ?_)
  refine bn_pR h (fun _ h => ?_)
  refine bn_mkO h (by omega) (fun _ h => ?_)
  refine bn_bind (pnX8 h (by omega)) (fun _ h => ?_)
  refine bn_pR h (fun _ h => ?_)
  refine bn_mkO h (by omega) (fun _ h => ?_)
  refine bn_bind (pnX4 h (by omega)) (fun _ h => ?_)
  refine bn_pR h (fun _ h => ?_)
  refine bn_gR (fun _ => ?_)
  refine bn_mkO h (by omega) (fun _ h => ?_)
  refine bn_bind (pnX7 h (by omega)) (fun _ h => ?_)
  refine bn_tR h (fun _ h => ?_)
  refine bn_gR (fun _ => ?_)
  refine bn_mkO h (by omega) (fun _ h => ?_)
  refine bn_bind (pnX7 h (by omega)) (fun _ h => ?_)
  refine bn_tR h (fun _ h => ?_)
  refine bn_gR (fun _ => ?_)
  refine bn_mkO h (by omega) (fun _ h => ?_)
  refine bn_bind (pnX7 h (by omega)) (fun _ h => ?_)
  refine bn_tR h (fun _ h => ?_)
  refine bn_gR (fun _ => ?_)
  refine bn_mkO h (by omega) (fun _ h => ?_)
  refine bn_bind (pnX7 h (by omega)) (fun _ h => ?_)
  refine bn_tR h (fun _ h => ?_)
  refine bn_gR (fun _ => ?_)
  refine bn_mkO h (by omega) (fun _ h => ?_)
  refine bn_bind (pnX7 h (by omega)) (fun _ h => ?_)
  refine bn_tR h (fun _ h => ?_)
  refine bn_gR (fun _ => ?_)
  refine bn_mkO h (by omega) (fun _ h => ?_)
  refine bn_bind (pnX7 h (by omega)) (fun _ h => ?_)
  refine bn_tR h (fun _ h => ?_)
  refine bn_gR (fun _ => ?_)
  refine bn_mkO h (by omega) (fun _ h => ?_)
  refine bn_bind (pnX7 h (by omega)) (fun _ h => ?_)
  refine bn_tR h (fun _ h => ?_)
  refine bn_gR (fun _ => ?_)
  refine bn_mkO h (by omega) (fun _ h => ?_)
  refine bn_bind (pnX7 h (by omega)) (fun _ h => ?_)
  refine bn_tR h (fun _ h => ?_)
  exact bn_some h
theorem pnX10 {n v0 : Nat} {c : mm_C} (h : Pn c) (hn : n + 1 ≤ 454) : bn (nX10_init n v0  c) := by
  unfold nX10_init
  refine bn_pI h (fun _ h => ?_)
  refine bn_pI h (fun _ h => ?_)
  refine bn_mkA h (by omega) (fun _ h => ?_)
  refine bn_pR h (fun _ h => ?_)
  refine bn_pI h (fun _ h => ?_)
  refine bn_pI h (fun _ h => ?_)
  exact bn_some h
theorem pnX2 {n v0 v1 : Nat} {c : mm_C} (h : Pn c) (hn : n + 2 ≤ 454) : bn (nX2_init n v0 v1 c) := by
  unfold nX2_init
  refine bn_pI h (fun _ h => ?_)
  refine bn_pI h (fun _ h => ?_)
  refine bn_mkO h (by omega) (fun _ h => ?_)
  refine bn_bind (pnX10 h (by omega)) (fun _ h => ?_)
  refine bn_pR h (fun _ h => ?_)
  refine bn_pI h (fun _ h => ?_)
  refine bn_pI h (fun _ h => ?_)
  refine bn_pI h (fun _ h => ?_)
  refine bn_pR h (fun _ h => ?_)
  exact bn_some h
theorem pnX1 {n v0 v1 v2 : Nat} {c : mm_C} (h : Pn c) (hn : n + 2 ≤ 454) : bn (nX1_init n v0 v1 v2 c) := by
  unfold nX1_init
  refine bn_mkA h (by omega) (fun _ h => ?_)
  refine bn_pR h (fun _ h => ?_)
  refine bn_mkA h (by omega) (fun _ h => ?_)
  refine bn_pR h (fun _ h => ?_)
  refine bn_pI h (fun _ h => ?_)
  refine bn_pR h (fun _ h => ?_)
  refine bn_pR h (fun _ h => ?_)
  exact bn_some h
theorem pnX5 {n v0 : Nat} {c : mm_C} (h : Pn c) (hn : n + 169 ≤ 454) : bn (nX5_init n v0  c) := by
  unfold nX5_init
  refine bn_mkO h (by omega) (fun _ h => ?_)
  refine bn_bind (pnX9 h (by omega)) (fun _ h => ?_)
  refine bn_pR h (fun _ h => ?_)
  refine bn_mkR h (by omega) (fun _ h => ?_)
  refine bn_pR h (fun _ h => ?_)
  refine bn_pI h (fun _ h => ?_)
  refine bn_mkA h (by omega) (fun _ h => ?_)
  refine bn_pR h (fun _ h => ?_)
  refine bn_mkA h (by omega) (fun _ h => ?_)
  refine bn_pR h (fun _ h => ?_)
  refine bn_mkA h (by omega) (fun _ h => ?_)
  refine bn_pR h (fun _ h => ?_)
  refine bn_pI h (fun _ h => ?_)
  refine bn_mkA h (by omega) (fun _ h => ?_)
  refine bn_pR h (fun _ h => ?_)
  refine bn_gR (fun _ => ?_)
  refine bn_mkO h (by omega) (fun _ h => ?_)
  refine bn_bind (pnX9 h (by omega)) (fun _ h => ?_)
  refine bn_tR h (fun _ h => ?_)
  refine bn_gR (fun _ => ?_)
  refine bn_mkO h (by omega) (fun _ h => ?_)
  refine bn_bind (pnX9 h (by omega)) (fun _ h => ?_)
  refine bn_tR h (fun _ h => ?_)
  refine bn_gR (fun _ => ?_)
  refine bn_mkO h (by omega) (fun _ h => ?_)
  refine bn_bind (pnX9 h (by omega)) (fun _ h => ?_)
  refine bn_tR h (fun _ h => ?_)
  refine bn_gR (fun _ => ?_)
  refine bn_mkO h (by omega) (fun _ h => ?_)
  refine bn_bind (pnX9 h (by omega)) (fun _ h => ?_)
  refine bn_tR h (fun _ h => ?_)
  refine bn_gR (fun _ => ?_)
  refine bn_mkO h (by omega) (fun _ h => ?_)
  refine bn_bind (pnX9 h (by omega)) (fun _ h => ?_)
  refine bn_tR h (fun _ h => ?_)
  refine bn_gR (fun _ => ?_)
  refine bn_mkO h (by omega) (fun _ h => ?_)
  refine bn_bind (pnX9 h (by omega)) (fun _ h => ?_)
  refine bn_tR h (fun _ h => ?_)
  refine bn_gR (fun _ => ?_)
  refine bn_mkO h (by omega) (fun _ h => ?_)
  refine bn_bind (pnX9 h (by omega)) (fun _ h => ?_)
  refine bn_tR h (fun _ h => ?_)
  refine bn_gR (fun _ => ?_)
  refine bn_mkO h (by omega) (fun _ h => ?_)
  refine bn_bind (pnX9 h (by omega)) (fun _ h => ?_)
  refine bn_tR h (fun _ h => ?_)
  refine bn_gR (fun _ => ?_)
  refine bn_mkO h (by omega) (fun _ h => ?_)
  refine bn_bind (pnX9 h (by omega)) (fun _ h => ?_)
  refine bn_tR h (fun _ h => ?_)
  refine bn_gR (fun _ => ?_)
  refine bn_mkO h (by omega) (fun _ h => ?_)
  refine bn_bind (pnX9 h (by omega)) (fun _ h => ?_)
  refine bn_tR h (fun _ h => ?_)
  refine bn_gR (fun _ => ?_)
  refine bn_mkO h (by omega) (fun _ h => ?_)
  refine bn_bind (pnX9 h (by omega)) (fun _ h => ?_)
  refine bn_tR h (fun _ h => ?_)
  refine bn_gR (fun _ => ?_)
  refine bn_mkO h (by omega) (fun _ h => ?_)
  refine bn_bind (pnX9 h (by omega)) (fun _ h => ?_)
  refine bn_tR h (fun _ h => ?_)
  refine bn_gR (fun _ => ?_)
  refine bn_mkO h (by omega) (fun _ h => ?_)
  refine bn_bind (pnX9 h (by omega)) (fun _ h => ?_)
  refine bn_tR h (fun _ h => ?_)
  refine bn_gR (fun _ => ?_)
  refine bn_mkO h (by omega) (fun _ h => ?_)
  refine bn_bind (pnX9 h (by omega)) (fun _ h => ?_)
  refine bn_tR h (fun _ h => ?_)
  refine bn_gR (fun _ => ?_)
  refine bn_mkO h (by omega) (fun _ h => ?_)
  refine bn_bind (pnX9 h (by omega)) (fun _ h => ?_)
  refine bn_tR h (fun _ h => ?_)
  refine bn_gR (fun _ => ?_)
  refine bn_mkO h (by omega) (fun _ h => ?_)
  refine bn_bind (pnX9 h (by omega)) (fun _ h => ?_)
  refine bn_tR h (fun _ h => ?_)
  refine bn_gR (fun _ => ?_)
  refine bn_mkO h (by omega) (fun _ h => ?_)
  refine bn_bind (pnX9 h (by omega)) (fun _ h => ?_)
  refine bn_tR h (fun _ h => ?_)
  refine bn_gR (fun _ => ?_)
  refine bn_mkO h (by omega) (fun _ h => ?_)
  refine bn_bind (pnX9 h (by omega)) (fun _ h => ?_)
  refine bn_tR h (fun _ h => ?_)
  refine bn_gR (fun _ => ?_)
  refine bn_mkO h (by omega) (fun _ h => ?_)
  refine bn_bind (pnX9 h (by omega)) (fun _ h => ?_)
  refine bn_tR h (fun _ h => ?_)
  refine bn_gR (fun _ => ?_)
  refine bn_mkO h (by omega) (fun _ h => ?_)
  refine bn_bind (pnX9 h (by omega)) (fun _ h => ?_)
  refine bn_tR h (fun _ h => ?_)
  refine bn_gR (fun _ => ?_)
  refine bn_mkO h (by omega) (fun _ h => ?_)
  refine bn_bind (pnX9 h (by omega)) (fun _ h => ?_)
  refine bn_tR h (fun _ h => ?_)
  refine bn_gR (fun _ => ?_)
  refine bn_mkO h (by omega) (fun _ h => ?_)
  refine bn_bind (pnX9 h (by omega)) (fun _ h => ?_)
  refine bn_tR h (fun _ h => ?_)
  refine bn_gR (fun _ => ?_)
  refine bn_mkO h (by omega) (fun _ h => ?_)
  refine bn_bind (pnX9 h (by omega)) (fun _ h => ?_)
  refine bn_tR h (fun _ h => ?_)
  refine bn_gR (fun _ => ?_)
  refine bn_mkO h (by omega) (fun _ h => ?_)
  refine bn_bind (pnX9 h (by omega)) (fun _ h => ?_)
  refine bn_tR h (fun _ h => ?_)
  refine bn_gR (fun _ => ?_)
  refine bn_mkO h (by omega) (fun _ h => ?_)
  refine bn_bind (pnX9 h (by omega)) (fun _ h => ?_)
  refine bn_tR h (fun _ h => ?_)
  refine bn_gR (fun _ => ?_)
  refine bn_mkO h (by omega) (fun _ h => ?_)
  refine bn_bind (pnX9 h (by omega)) (fun _ h => ?_)
  refine bn_tR h (fun _ h => ?_)
  refine bn_gR (fun _ => ?_)
  refine bn_mkO h (by omega) (fun _ h => ?_)
  refine bn_bind (pnX9 h (by omega)) (fun _ h => ?_)
  refine bn_tR h (fun _ h => ?_)
  refine bn_gR (fun _ => ?_)
  refine bn_mkO h (by omega) (fun _ h => ?_)
  refine bn_bind (pnX9 h (by omega)) (fun _ h => ?_)
  refine bn_tR h (fun _ h => ?_)
  refine bn_gR (fun _ => ?_)
  refine bn_mkO h (by omega) (fun _ h => ?_)
  refine bn_bind (pnX9 h (by omega)) (fun _ h => ?_)
  refine bn_tR h (fun _ h => ?_)
  refine bn_gR (fun _ => ?_)
  refine bn_mkO h (by omega) (fun _ h => ?_)
  refine bn_bind (pnX9 h (by omega)) (fun _ h => ?_)
  refine bn_tR h (fun _ h => ?_)
  refine bn_gR (fun _ => ?_)
  refine bn_mkO h (by omega) (fun _ h => ?_)
  refine bn_bind (pnX9 h (by omega)) (fun _ h => ?_)
  refine bn_tR h (fun _ h => ?_)
  refine bn_gR (fun _ => ?_)
  refine bn_mkO h (by omega) (fun _ h => ?_)
  refine bn_bind (pnX9 h (by omega)) (fun _ h => ?_)
  refine bn_tR h (fun _ h => ?_)
  refine bn_gR (fun _ => ?_)
  refine bn_mkO h (by omega) (fun _ h => ?_)
  refine bn_bind (pnX9 h (by omega)) (fun _ h => ?_)
  refine bn_tR h (fun _ h => ?_)
  refine bn_gR (fun _ => ?_)
  refine bn_mkO h (by omega) (fun _ h => ?_)
  refine bn_bind (pnX9 h (by omega)) (fun _ h => ?_)
  refine bn_tR h (fun _ h => ?_)
  refine bn_gR (fun _ => ?_)
  refine bn_mkO h (by omega) (fun _ h => ?_)
  refine bn_bind (pnX9 h (by omega)) (fun _ h => ?_)
  refine bn_tR h (fun _ h => ?_)
  refine bn_gR (fun _ => ?_)
  refine bn_mkO h (by omega) (fun _ h => ?_)
  refine bn_bind (pnX9 h (by omega)) (fun _ h => ?_)
  refine bn_tR h (fun _ h => ?_)
  refine bn_gR (fun _ => ?_)
  refine bn_mkO h (by omega) (fun _ h => ?_)
  refine bn_bind (pnX9 h (by omega)) (fun _ h => ?_)
  refine bn_tR h (fun _ h => ?_)
  refine bn_gR (fun _ => ?_)
  refine bn_mkO h (by omega) (fun _ h => ?_)
  refine bn_bind (pnX9 h (by omega)) (fun _ h => ?_)
  refine bn_tR h (fun _ h => ?_)
  refine bn_gR (fun _ => ?_)
  refine bn_mkO h (by omega) (fun _ h => ?_)
  refine bn_bind (pnX9 h (by omega)) (fun _ h => ?_)
  refine bn_tR h (fun _ h => ?_)
  refine bn_gR (fun _ => ?_)
  refine bn_mkO h (by omega) (fun _ h => ?_)
  refine bn_bind (pnX9 h (by omega)) (fun _ h => ?_)
  refine bn_tR h (fun _ h => ?_)
  exact bn_some h
theorem pnX0 {n v0 v1 : Nat} {c : mm_C} (h : Pn c) (hn : n + 9 ≤ 454) : bn (nX0_init n v0 v1 c) := by
  unfold nX0_init
  refine bn_pI h (fun _ h => ?_)
  refine bn_pI h (fun _ h => ?_)
  refine bn_pI h (fun _ h => ?_)
  refine bn_pI h (fun _ h => ?_)
  refine bn_pI h (fun _ h => ?_)
  refine bn_pI h (fun _ h => ?_)
  refine bn_mkA h (by omega) (fun _ h => ?_)
  refine bn_pR h (fun _ h => ?_)
  refine bn_mkA h (by omega) (fun _ h => ?_)
  refine bn_pR h (fun _ h => ?_)
  refine bn_mkO h (by omega) (fun _ h => ?_)
  refine bn_bind (pnX9 h (by omega)) (fun _ h => ?_)
  refine bn_pR h (fun _ h => ?_)
  refine bn_pI h (fun _ h => ?_)
  refine bn_pI h (fun _ h => ?_)
  refine bn_pR h (fun _ h => ?_)
  refine bn_mkO h (by omega) (fun _ h => ?_)
  refine bn_gR (fun _ => ?_)
  refine bn_bind (pnX1 h (by omega)) (fun _ h => ?_)
  refine bn_pR h (fun _ h => ?_)
  exact bn_some h
theorem pnX6 {n v0 v1 v2 : Nat} {c : mm_C} (h : Pn c) (hn : n + 24 ≤ 454) : bn (nX6_init n v0 v1 v2 c) := by
  unfold nX6_init
  refine bn_pI h (fun _ h => ?_)
  refine bn_pI h (fun _ h => ?_)
  refine bn_pI h (fun _ h => ?_)
  refine bn_pI h (fun _ h => ?_)
  refine bn_mkA h (by omega) (fun _ h => ?_)
  refine bn_pR h (fun _ h => ?_)
  refine bn_pI h (fun _ h => ?_)
  refine bn_mkM h (by omega) (fun _ h => ?_)
  refine bn_pR h (fun _ h => ?_)
  refine bn_mkM h (by omega) (fun _ h => ?_)
  refine bn_pR h (fun _ h => ?_)
  refine bn_mkA h (by omega) (fun _ h => ?_)
  refine bn_pR h (fun _ h => ?_)
  refine bn_mkA h (by omega) (fun _ h => ?_)
  refine bn_pR h (fun _ h => ?_)
  refine bn_pR h (fun _ h => ?_)
  refine bn_pR h (fun _ h => ?_)
  refine bn_mkO h (by omega) (fun _ h => ?_)
  refine bn_bind (pnX1 h (by omega)) (fun _ h => ?_)
  refine bn_pR h (fun _ h => ?_)
  exact bn_some h
theorem pnX11 {n v0 : Nat} {c : mm_C} (h : Pn c) (hn : n + 418 ≤ 454) : bn (nX11_init n v0  c) := by
  unfold nX11_init
  refine bn_mkA h (by omega) (fun _ h => ?_)
  refine bn_pR h (fun _ h => ?_)
  refine bn_pI h (fun _ h => ?_)
  refine bn_pI h (fun _ h => ?_)
  refine bn_mkO h (by omega) (fun _ h => ?_)
  refine bn_bind (pnX3 h (by omega)) (fun _ h => ?_)
  refine bn_pR h (fun _ h => ?_)
  refine bn_mkO h (by omega) (fun _ h => ?_)
  refine bn_bind (pnX3 h (by omega)) (fun _ h => ?_)
  refine bn_pR h (fun _ h => ?_)
  refine bn_mkO h (by omega) (fun _ h => ?_)
  refine bn_gR (fun _ => ?_)
  refine bn_bind (pnX2 h (by omega)) (fun _ h => ?_)
  refine bn_pR h (fun _ h => ?_)
  refine bn_mkO h (by omega) (fun _ h => ?_)
  refine bn_bind (pnX5 h (by omega)) (fun _ h => ?_)
  refine bn_pR h (fun _ h => ?_)
  refine bn_mkO h (by omega) (fun _ h => ?_)
  refine bn_bind (pnX5 h (by omega)) (fun _ h => ?_)
  refine bn_pR h (fun _ h => ?_)
  refine bn_pI h (fun _ h => ?_)
  refine bn_mkO h (by omega) (fun _ h => ?_)
  refine bn_bind (pnX9 h (by omega)) (fun _ h => ?_)
  refine bn_pR h (fun _ h => ?_)
  refine bn_mkO h (by omega) (fun _ h => ?_)
  refine bn_gR (fun _ => ?_)
  refine bn_gR (fun _ => ?_)
  refine bn_bind (pnX1 h (by omega)) (fun _ h => ?_)
  refine bn_pR h (fun _ h => ?_)
  refine bn_mkO h (by omega) (fun _ h => ?_)
  refine bn_gR (fun _ => ?_)
  refine bn_bind (pnX0 h (by omega)) (fun _ h => ?_)
  refine bn_pR h (fun _ h => ?_)
  refine bn_mkO h (by omega) (fun _ h => ?_)
  refine bn_gR (fun _ => ?_)
  refine bn_gR (fun _ => ?_)
  refine bn_bind (pnX6 h (by omega)) (fun _ h => ?_)
  refine bn_pR h (fun _ h => ?_)
  exact bn_some h
theorem pnX12 {n v0 : Nat} {c : mm_C} (h : Pn c) (hn : n + 33 ≤ 454) : bn (nX12_init n v0  c) := by
  unfold nX12_init
  refine bn_mkR h (by omega) (fun _ h => ?_)
  refine bn_tS h (fun _ h => ?_)
  refine bn_tS h (fun _ h => ?_)
  refine bn_tS h (fun _ h => ?_)
  refine bn_pR h (fun _ h => ?_)
  refine bn_mkR h (by omega) (fun _ h => ?_)
  refine bn_tS h (fun _ h => ?_)
  refine bn_tS h (fun _ h => ?_)
  refine bn_tS h (fun _ h => ?_)
  refine bn_tS h (fun _ h => ?_)
  refine bn_tS h (fun _ h => ?_)
  refine bn_tS h (fun _ h => ?_)
  refine bn_tS h (fun _ h => ?_)
  refine bn_tS h (fun _ h => ?_)
  refine bn_pR h (fun _ h => ?_)
  refine bn_mkA h (by omega) (fun _ h => ?_)
  refine bn_tI h (fun _ h => ?_)
  refine bn_tI h (fun _ h => ?_)
  refine bn_tI h (fun _ h => ?_)
  refine bn_tI h (fun _ h => ?_)
  refine bn_tI h (fun _ h => ?_)
  refine bn_tI h (fun _ h => ?_)
  refine bn_tI h (fun _ h => ?_)
  refine bn_tI h (fun _ h => ?_)
  refine bn_tI h (fun _ h => ?_)
  refine bn_tI h (fun _ h => ?_)
  refine bn_tI h (fun _ h => ?_)
  refine bn_tI h (fun _ h => ?_)
  refine bn_tI h (fun _ h => ?_)
  refine bn_tI h (fun _ h => ?_)
  refine bn_tI h (fun _ h => ?_)
  refine bn_tI h (fun _ h => ?_)
  refine bn_pR h (fun _ h => ?_)
  refine bn_mkA h (by omega) (fun _ h => ?_)
  refine bn_pR h (fun _ h => ?_)
  refine bn_mkA h (by omega) (fun _ h => ?_)
  refine bn_pR h (fun _ h => ?_)
  refine bn_mkA h (by omega) (fun _ h => ?_)
  refine bn_pR h (fun _ h => ?_)
  refine bn_mkA h (by omega) (fun _ h => ?_)
  refine bn_pR h (fun _ h => ?_)
  refine bn_mkA h (by omega) (fun _ h => ?_)
  refine bn_pR h (fun _ h => ?_)
  refine bn_mkA h (by omega) (fun _ h => ?_)
  refine bn_pR h (fun _ h => ?_)
  refine bn_mkA h (by omega) (fun _ h => ?_)
  refine bn_pR h (fun _ h => ?_)
  refine bn_mkA h (by omega) (fun _ h => ?_)
  refine bn_pR h (fun _ h => ?_)
  refine bn_mkA h (by omega) (fun _ h => ?_)
  refine bn_pR h (fun _ h => ?_)
  refine bn_mkA h (by omega) (fun _ h => ?_)
  refine bn_pR h (fun _ h => ?_)
  refine bn_mkA h (by omega) (fun _ h => ?_)
  refine bn_pR h (fun _ h => ?_)
  refine bn_mkA h (by omega) (fun _ h => ?_)
  refine bn_pR h (fun _ h => ?_)
  refine bn_pI h (fun _ h => ?_)
  refine bn_mkA h (by omega) (fun _ h => ?_)
  refine bn_pR h (fun _ h => ?_)
  refine bn_mkA h (by omega) (fun _ h => ?_)
  refine bn_pR h (fun _ h => ?_)
  refine bn_pI h (fun _ h => ?_)
  refine bn_mkA h (by omega) (fun _ h => ?_)
  refine bn_pR h (fun _ h => ?_)
  refine bn_mkA h (by omega) (fun _ h => ?_)
  refine bn_pR h (fun _ h => ?_)
  refine bn_mkA h (by omega) (fun _ h => ?_)
  refine bn_pR h (fun _ h => ?_)
  refine bn_mkA h (by omega) (fun _ h => ?_)
  refine bn_pR h (fun _ h => ?_)
  refine bn_mkA h (by omega) (fun _ h => ?_)
  refine bn_pR h (fun _ h => ?_)
  refine bn_mkA h (by omega) (fun _ h => ?_)
  refine bn_pR h (fun _ h => ?_)
  refine bn_mkA h (by omega) (fun _ h => ?_)
  refine bn_pR h (fun _ h => ?_)
  refine bn_mkA h (by omega) (fun _ h => ?_)
  refine bn_pR h (fun _ h => ?_)
  refine bn_mkA h (by omega) (fun _ h => ?_)
  refine bn_pR h (fun _ h => ?_)
  refine bn_mkA h (by omega) (fun _ h => ?_)
  refine bn_pR h (fun _ h => ?_)
  refine bn_mkA h (by omega) (fun _ h => ?_)
  refine bn_pR h (fun _ h => ?_)
  refine bn_mkA h (by omega) (fun _ h => ?_)
  refine bn_pR h (fun _ h => ?_)
  refine bn_mkA h (by omega) (fun _ h => ?_)
  refine bn_pR h (fun _ h => ?_)
  refine bn_mkA h (by omega) (fun _ h => ?_)
  refine bn_pR h (fun _ h => ?_)
  refine bn_mkA h (by omega) (fun _ h => ?_)
  refine bn_pR h (fun _ h => ?_)
  refine bn_mkA h (by omega) (fun _ h => ?_)
  refine bn_pR h (fun _ h => ?_)
  exact bn_some h
theorem Pn_C5 : Pn C5 := by
  have h0 : Pn c00 := ⟨fun _ _ => rfl, fun a e h => by cases h⟩
  have hb : bn ini := by
    unfold ini
    refine bn_mkO h0 (by omega) (fun c1 h1 => ?_)
    refine bn_bind (pnX11 h1 (by omega)) (fun c2 h2 => ?_)
    refine bn_mkO h2 (by omega) (fun c3 h3 => ?_)
    refine bn_bind (pnX12 h3 (by omega)) (fun c4 h4 => ?_)
    exact bn_some (Pn_cup h4 (by omega) (fun _ _ _ h => by cases h))
  unfold C5
  cases hi : ini with
  | none => exact h0
  | some c => exact hb c hi
theorem ini_eq : ini = some C5 := by
  have h := ini_some
  unfold C5
  cases hi : ini with
  | none => rw [hi] at h; cases h
  | some c => rfl
theorem shL_eq (ci a c : Nat) (vs0 : List Value) : ∀ (vs : List Value) (bs : List Bool) (j0 : Nat), shL ci a j0 vs bs = true → (∀ i, vs0[j0 + i]? = vs[i]?) → vs = bs.mapIdx fun i b => if b then .int (exI (some (.inr (c, vs0))) (j0 + i)) else .ref ((imK ci a (j0 + i)).getD (exR (some (.inr (c, vs0))) (j0 + i)))
  | [], [], _, _, _ => rfl
  | [], _ :: _, _, h, _ => by cases h
  | _ :: _, [], _, h, _ => by cases h
  | v :: vs, b :: bs, j0, h, hv => by
    have h' : (shV ci a j0 v b && shL ci a (j0 + 1) vs bs) = true := h
    rw [Bool.and_eq_true] at h'
    obtain ⟨h1, h2⟩ := h'
    have ih := shL_eq ci a c vs0 vs bs (j0 + 1) h2 (fun i => by
      have := hv (i + 1)
      rw [show j0 + (i + 1) = j0 + 1 + i by omega] at this
      exact this)
    have e0 : vs0[j0]? = some v := hv 0
    rw [List.mapIdx_cons]
    congr 1
    · unfold exI exR
      rw [show j0 + 0 = j0 from rfl]
      cases b with
      | true =>
        cases v with
        | int x => simp [e0]
        | _ => cases h1
      | false =>
        cases v with
        | ref r =>
          unfold shV at h1
          simp only [e0]
          cases hi : imK ci a j0 with
          | none => rfl
          | some x =>
            simp only [hi] at h1
            have := of_decide_eq_true h1
            rw [this]
            rfl
        | _ => cases h1
    · refine ih.trans ?_
      congr 1
      funext i b
      rw [show j0 + 1 + i = j0 + (i + 1) by omega]
