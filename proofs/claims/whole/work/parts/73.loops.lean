/- needs: 72.part -/
/-! products, sums, and, or -/
section LO
variable {N : Nat} {T : Nat → Nat} {L p a d : Nat} {eC eR : Nat → Int32 → mm_C → mR Unit}
def tProduct (T : Nat → Nat) (L e : Nat) : Option Int32 := if isS T L e 42 = true then some (-22) else if isS T L e 47 = true then some (-23) else none
theorem tProduct_n {e : Nat} (h : tProduct T L e = none) : isS T L e 42 = false ∧ isS T L e 47 = false := by
  unfold tProduct at h
  cases c : isS T L e 42 with
  | true => rw [c, if_pos rfl] at h; cases h
  | false =>
    rw [c, if_neg (by decide)] at h
    cases c2 : isS T L e 47 with
    | true => rw [c2, if_pos rfl] at h; cases h
    | false => exact ⟨rfl, rfl⟩
theorem tProduct_s {e : Nat} {g : Int32} (h : tProduct T L e = some g) : (isS T L e 42 = true ∧ g = -22) ∨ (isS T L e 42 = false ∧ isS T L e 47 = true ∧ g = -23) := by
  unfold tProduct at h
  cases c : isS T L e 42 with
  | true => rw [c, if_pos rfl] at h; exact Or.inl ⟨rfl, (Option.some.inj h).symm⟩
  | false =>
    rw [c, if_neg (by decide)] at h
    cases c2 : isS T L e 47 with
    | true => rw [c2, if_pos rfl] at h; exact Or.inr ⟨rfl, rfl, (Option.some.inj h).symm⟩
    | false => rw [c2, if_neg (by decide)] at h; cases h
theorem tProduct_o : ∀ e g, tProduct T L e = some g → opq g ∧ ¬ tkK T L e = 0 := by
  intro e g h
  rcases tProduct_s h with ⟨c, hg⟩ | ⟨_, c, hg⟩
  · have := of_decide_eq_true c
    exact ⟨by rw [hg]; unfold opq; decide, by omega⟩
  · have := of_decide_eq_true c
    exact ⟨by rw [hg]; unfold opq; decide, by omega⟩
theorem cProduct_0 (hL : L ≤ 700) (hT : ∀ j, j < L → T j < 256) : ∀ f i s e k Q, CPs T L p s e k Q → i < 700 → e ≤ L → tProduct T L e = none → lX2_readsProduct_7 N eC (f + 1) 34 (nI a) (nI i) (mk s) = some (.inl (), mk s) := by
  intro f i s e k Q h hi he ht
  obtain ⟨t1, t2⟩ := tProduct_n ht
  show bX2_readsProduct_7 N eC (lX2_readsProduct_7 N eC f) 34 (nI a) (nI i) (mk s) = _
  unfold bX2_readsProduct_7
  rw [if_neg (show ¬ (700 : Int32) ≤ nI i from nI_ge (b := 700) hi (by omega)), gR34, ob_s, cV10, c_sgn (c := 42) (x := 42) hL hT h rfl (by decide), cS_l, t1, if_neg (fun z => z rfl), gR34, ob_s, cV10, c_sgn (c := 47) (x := 47) hL hT h rfl (by decide), cS_l, t2, if_pos (by decide)]
theorem cProduct_h (hL : L ≤ 700) (hT : ∀ j, j < L → T j < 256) : ∀ f i s e k Q g, CPs T L p s e k Q → i < 700 → tProduct T L e = some g → lX2_readsProduct_7 N eC (f + 1) 34 (nI a) (nI i) (mk s) = bX2_readsProduct_57 N eC (lX2_readsProduct_7 N eC f) 34 (nI a) (nI i) (trc g) (mk s) := by
  intro f i s e k Q g h hi ht
  show bX2_readsProduct_7 N eC (lX2_readsProduct_7 N eC f) 34 (nI a) (nI i) (mk s) = _
  unfold bX2_readsProduct_7
  rw [if_neg (show ¬ (700 : Int32) ≤ nI i from nI_ge (b := 700) hi (by omega)), gR34, ob_s, cV10, c_sgn (c := 42) (x := 42) hL hT h rfl (by decide), cS_l]
  rcases tProduct_s ht with ⟨t1, hg⟩ | ⟨t1, t2, hg⟩
  · rw [t1, if_pos (by decide)]
    unfold bX2_readsProduct_38
    rw [gR34, ob_s, cV10, c_sgn (c := 42) (x := 42) hL hT h rfl (by decide), cS_l, t1, if_neg (by decide), hg]
    rfl
  · rw [t1, if_neg (fun z => z rfl), gR34, ob_s, cV10, c_sgn (c := 47) (x := 47) hL hT h rfl (by decide), cS_l, t2, if_neg (by decide)]
    unfold bX2_readsProduct_38
    rw [gR34, ob_s, cV10, c_sgn (c := 42) (x := 42) hL hT h rfl (by decide), cS_l, t1, if_pos (by decide), hg]
    rfl
theorem cProduct_1 (hL : L ≤ 700) (hT : ∀ j, j < L → T j < 256) : ∀ f i s e k Q g s2 s3, CPs T L p s e k Q → i < 700 → e ≤ L → tProduct T L e = some g → fX10_advances N 35 (mk s) = some (.inl (), mk s2) → fX2_readsOperand N eC 34 (nI a) (mk s2) = some (.inr 0, mk s3) → lX2_readsProduct_7 N eC (f + 1) 34 (nI a) (nI i) (mk s) = some (.inr 0, mk s3) := by
  intro f i s e k Q g s2 s3 h hi he ht b1 b2
  rw [cProduct_h hL hT f i s e k Q g h hi ht]
  unfold bX2_readsProduct_57
  rw [gR34, ob_s, cV10, b1, cS_l, cV34, b2, cS_r]
theorem cProduct_2 (hL : L ≤ 700) (hT : ∀ j, j < L → T j < 256) (hp : plA p) : ∀ f i s e k Q g s2 s3 s4, CPs T L p s e k Q → i < 700 → e ≤ L → tProduct T L e = some g → fX10_advances N 35 (mk s) = some (.inl (), mk s2) → fX2_readsOperand N eC 34 (nI a) (mk s2) = some (.inl (), mk s3) → s3.2.1 34 3 = p → fX4_emits N (p + 4) (trc g) (mk s3) = some (.inl (), mk s4) → lX2_readsProduct_7 N eC (f + 1) 34 (nI a) (nI i) (mk s) = lX2_readsProduct_7 N eC f 34 (nI a) (nI (i + 1)) (mk s4) := by
  intro f i s e k Q g s2 s3 s4 h hi he ht b1 b2 b3 b4
  rw [cProduct_h hL hT f i s e k Q g h hi ht]
  unfold bX2_readsProduct_57
  rw [gR34, ob_s, cV10, b1, cS_l, cV34, b2, cS_l, gR34p, ob_s, b3, gR38 hp, ob_s, cV44 hp, b4, cS_l, nI_1]
theorem rProduct_0 (hL : L ≤ 700) (hT : ∀ j, j < L → T j < 256) : ∀ f s e k Q, RPs T L s e k Q → e ≤ L → tProduct T L e = none → lX12_readProduct_5 N eR (f + 1) 419 (nI a) (mk s) = some (.inl (), mk s) := by
  intro f s e k Q h he ht
  obtain ⟨t1, t2⟩ := tProduct_n ht
  show bX12_readProduct_5 N eR (lX12_readProduct_5 N eR f) 419 (nI a) (mk s) = _
  unfold bX12_readProduct_5
  rw [cV12, r_sgn (c := 42) (x := 42) hL hT h rfl (by decide), cS_l, t1, if_neg (fun z => z rfl), cV12, r_sgn (c := 47) (x := 47) hL hT h rfl (by decide), cS_l, t2, if_pos (by decide)]
theorem rProduct_b : ∀ f (s : sg), ¬ s.1 419 23 = 0 → lX12_readProduct_5 N eR (f + 1) 419 (nI a) (mk s) = some (.inl (), mk s) := by
  intro f s hb
  show bX12_readProduct_5 N eR (lX12_readProduct_5 N eR f) 419 (nI a) (mk s) = _
  unfold bX12_readProduct_5
  rw [cV12, r_isMdb hb, cS_l, if_neg (fun z => z rfl), cV12, r_isMdb hb, cS_l, if_pos rfl]
theorem rProduct_1 (hL : L ≤ 700) (hT : ∀ j, j < L → T j < 256) : ∀ f s e k Q g s2 s3 s4, RPs T L s e k Q → e ≤ L → tProduct T L e = some g → fX12_stepOn N 419 (mk s) = some (.inl (), mk s2) → fX12_readPart N eR 419 (nI a) (mk s2) = some (.inl (), mk s3) → fX12_lay N 419 g (mk s3) = some (.inl (), mk s4) → lX12_readProduct_5 N eR (f + 1) 419 (nI a) (mk s) = lX12_readProduct_5 N eR f 419 (nI a) (mk s4) := by
  intro f s e k Q g s2 s3 s4 h he ht b1 b2 b3
  have key : bX12_readProduct_39 N eR (lX12_readProduct_5 N eR f) 419 (nI a) g (mk s) = lX12_readProduct_5 N eR f 419 (nI a) (mk s4) := by
    unfold bX12_readProduct_39
    rw [cV12, b1, cS_l, cV12, b2, cS_l, cV12, b3, cS_l]
  show bX12_readProduct_5 N eR (lX12_readProduct_5 N eR f) 419 (nI a) (mk s) = _
  unfold bX12_readProduct_5
  rw [cV12, r_sgn (c := 42) (x := 42) hL hT h rfl (by decide), cS_l]
  rcases tProduct_s ht with ⟨t1, hg⟩ | ⟨t1, t2, hg⟩
  · rw [t1, if_pos (by decide)]
    unfold bX12_readProduct_23
    rw [cV12, r_sgn (c := 42) (x := 42) hL hT h rfl (by decide), cS_l, t1, if_neg (by decide)]
    rw [hg] at key
    exact key
  · rw [t1, if_neg (fun z => z rfl), cV12, r_sgn (c := 47) (x := 47) hL hT h rfl (by decide), cS_l, t2, if_neg (by decide)]
    unfold bX12_readProduct_23
    rw [cV12, r_sgn (c := 42) (x := 42) hL hT h rfl (by decide), cS_l, t1, if_pos (by decide)]
    rw [hg] at key
    exact key
theorem lvProduct (hN1 : 1000 ≤ N) (hL : L ≤ 700) (hT : ∀ j, j < L → T j < 256) (hp : plA p) (hF : Lv T L p d (fX2_readsOperand N eC 34 (nI a)) (fX12_readPart N eR 419 (nI a))) : Lv T L p (d + 1) (fX2_readsProduct N eC 34 (nI a)) (fX12_readProduct N eR 419 (nI a)) :=
  Lv_loop (lC := fun f i c => lX2_readsProduct_7 N eC f 34 (nI a) i c) (lR := fun f c => lX12_readProduct_5 N eR f 419 (nI a) c) hN1 hL hT hp tProduct_o hF (cProduct_0 hL hT) (cProduct_1 hL hT) (cProduct_2 hL hT hp) (rProduct_0 hL hT) rProduct_b (rProduct_1 hL hT) (fun s => by
    unfold fX2_readsProduct bX2_readsProduct_0
    rw [cV34]
    rfl) (fun s => by
    unfold fX12_readProduct bX12_readProduct_0
    rw [cV12])
def tSum (T : Nat → Nat) (L e : Nat) : Option Int32 := if isS T L e 43 = true then some (-20) else if isS T L e 45 = true then some (-21) else none
theorem tSum_n {e : Nat} (h : tSum T L e = none) : isS T L e 43 = false ∧ isS T L e 45 = false := by
  unfold tSum at h
  cases c : isS T L e 43 with
  | true => rw [c, if_pos rfl] at h; cases h
  | false =>
    rw [c, if_neg (by decide)] at h
    cases c2 : isS T L e 45 with
    | true => rw [c2, if_pos rfl] at h; cases h
    | false => exact ⟨rfl, rfl⟩
theorem tSum_s {e : Nat} {g : Int32} (h : tSum T L e = some g) : (isS T L e 43 = true ∧ g = -20) ∨ (isS T L e 43 = false ∧ isS T L e 45 = true ∧ g = -21) := by
  unfold tSum at h
  cases c : isS T L e 43 with
  | true => rw [c, if_pos rfl] at h; exact Or.inl ⟨rfl, (Option.some.inj h).symm⟩
  | false =>
    rw [c, if_neg (by decide)] at h
    cases c2 : isS T L e 45 with
    | true => rw [c2, if_pos rfl] at h; exact Or.inr ⟨rfl, rfl, (Option.some.inj h).symm⟩
    | false => rw [c2, if_neg (by decide)] at h; cases h
theorem tSum_o : ∀ e g, tSum T L e = some g → opq g ∧ ¬ tkK T L e = 0 := by
  intro e g h
  rcases tSum_s h with ⟨c, hg⟩ | ⟨_, c, hg⟩
  · have := of_decide_eq_true c
    exact ⟨by rw [hg]; unfold opq; decide, by omega⟩
  · have := of_decide_eq_true c
    exact ⟨by rw [hg]; unfold opq; decide, by omega⟩
theorem cSum_0 (hL : L ≤ 700) (hT : ∀ j, j < L → T j < 256) : ∀ f i s e k Q, CPs T L p s e k Q → i < 700 → e ≤ L → tSum T L e = none → lX2_readsSum_7 N eC (f + 1) 34 (nI a) (nI i) (mk s) = some (.inl (), mk s) := by
  intro f i s e k Q h hi he ht
  obtain ⟨t1, t2⟩ := tSum_n ht
  show bX2_readsSum_7 N eC (lX2_readsSum_7 N eC f) 34 (nI a) (nI i) (mk s) = _
  unfold bX2_readsSum_7
  rw [if_neg (show ¬ (700 : Int32) ≤ nI i from nI_ge (b := 700) hi (by omega)), gR34, ob_s, cV10, c_sgn (c := 43) (x := 43) hL hT h rfl (by decide), cS_l, t1, if_neg (fun z => z rfl), gR34, ob_s, cV10, c_sgn (c := 45) (x := 45) hL hT h rfl (by decide), cS_l, t2, if_pos (by decide)]
theorem cSum_h (hL : L ≤ 700) (hT : ∀ j, j < L → T j < 256) : ∀ f i s e k Q g, CPs T L p s e k Q → i < 700 → tSum T L e = some g → lX2_readsSum_7 N eC (f + 1) 34 (nI a) (nI i) (mk s) = bX2_readsSum_57 N eC (lX2_readsSum_7 N eC f) 34 (nI a) (nI i) (trc g) (mk s) := by
  intro f i s e k Q g h hi ht
  show bX2_readsSum_7 N eC (lX2_readsSum_7 N eC f) 34 (nI a) (nI i) (mk s) = _
  unfold bX2_readsSum_7
  rw [if_neg (show ¬ (700 : Int32) ≤ nI i from nI_ge (b := 700) hi (by omega)), gR34, ob_s, cV10, c_sgn (c := 43) (x := 43) hL hT h rfl (by decide), cS_l]
  rcases tSum_s ht with ⟨t1, hg⟩ | ⟨t1, t2, hg⟩
  · rw [t1, if_pos (by decide)]
    unfold bX2_readsSum_38
    rw [gR34, ob_s, cV10, c_sgn (c := 43) (x := 43) hL hT h rfl (by decide), cS_l, t1, if_neg (by decide), hg]
    rfl
  · rw [t1, if_neg (fun z => z rfl), gR34, ob_s, cV10, c_sgn (c := 45) (x := 45) hL hT h rfl (by decide), cS_l, t2, if_neg (by decide)]
    unfold bX2_readsSum_38
    rw [gR34, ob_s, cV10, c_sgn (c := 43) (x := 43) hL hT h rfl (by decide), cS_l, t1, if_pos (by decide), hg]
    rfl
theorem cSum_1 (hL : L ≤ 700) (hT : ∀ j, j < L → T j < 256) : ∀ f i s e k Q g s2 s3, CPs T L p s e k Q → i < 700 → e ≤ L → tSum T L e = some g → fX10_advances N 35 (mk s) = some (.inl (), mk s2) → fX2_readsProduct N eC 34 (nI a) (mk s2) = some (.inr 0, mk s3) → lX2_readsSum_7 N eC (f + 1) 34 (nI a) (nI i) (mk s) = some (.inr 0, mk s3) := by
  intro f i s e k Q g s2 s3 h hi he ht b1 b2
  rw [cSum_h hL hT f i s e k Q g h hi ht]
  unfold bX2_readsSum_57
  rw [gR34, ob_s, cV10, b1, cS_l, cV34, b2, cS_r]
theorem cSum_2 (hL : L ≤ 700) (hT : ∀ j, j < L → T j < 256) (hp : plA p) : ∀ f i s e k Q g s2 s3 s4, CPs T L p s e k Q → i < 700 → e ≤ L → tSum T L e = some g → fX10_advances N 35 (mk s) = some (.inl (), mk s2) → fX2_readsProduct N eC 34 (nI a) (mk s2) = some (.inl (), mk s3) → s3.2.1 34 3 = p → fX4_emits N (p + 4) (trc g) (mk s3) = some (.inl (), mk s4) → lX2_readsSum_7 N eC (f + 1) 34 (nI a) (nI i) (mk s) = lX2_readsSum_7 N eC f 34 (nI a) (nI (i + 1)) (mk s4) := by
  intro f i s e k Q g s2 s3 s4 h hi he ht b1 b2 b3 b4
  rw [cSum_h hL hT f i s e k Q g h hi ht]
  unfold bX2_readsSum_57
  rw [gR34, ob_s, cV10, b1, cS_l, cV34, b2, cS_l, gR34p, ob_s, b3, gR38 hp, ob_s, cV44 hp, b4, cS_l, nI_1]
theorem rSum_0 (hL : L ≤ 700) (hT : ∀ j, j < L → T j < 256) : ∀ f s e k Q, RPs T L s e k Q → e ≤ L → tSum T L e = none → lX12_readSum_5 N eR (f + 1) 419 (nI a) (mk s) = some (.inl (), mk s) := by
  intro f s e k Q h he ht
  obtain ⟨t1, t2⟩ := tSum_n ht
  show bX12_readSum_5 N eR (lX12_readSum_5 N eR f) 419 (nI a) (mk s) = _
  unfold bX12_readSum_5
  rw [cV12, r_sgn (c := 43) (x := 43) hL hT h rfl (by decide), cS_l, t1, if_neg (fun z => z rfl), cV12, r_sgn (c := 45) (x := 45) hL hT h rfl (by decide), cS_l, t2, if_pos (by decide)]
theorem rSum_b : ∀ f (s : sg), ¬ s.1 419 23 = 0 → lX12_readSum_5 N eR (f + 1) 419 (nI a) (mk s) = some (.inl (), mk s) := by
  intro f s hb
  show bX12_readSum_5 N eR (lX12_readSum_5 N eR f) 419 (nI a) (mk s) = _
  unfold bX12_readSum_5
  rw [cV12, r_isMdb hb, cS_l, if_neg (fun z => z rfl), cV12, r_isMdb hb, cS_l, if_pos rfl]
theorem rSum_1 (hL : L ≤ 700) (hT : ∀ j, j < L → T j < 256) : ∀ f s e k Q g s2 s3 s4, RPs T L s e k Q → e ≤ L → tSum T L e = some g → fX12_stepOn N 419 (mk s) = some (.inl (), mk s2) → fX12_readProduct N eR 419 (nI a) (mk s2) = some (.inl (), mk s3) → fX12_lay N 419 g (mk s3) = some (.inl (), mk s4) → lX12_readSum_5 N eR (f + 1) 419 (nI a) (mk s) = lX12_readSum_5 N eR f 419 (nI a) (mk s4) := by
  intro f s e k Q g s2 s3 s4 h he ht b1 b2 b3
  have key : bX12_readSum_39 N eR (lX12_readSum_5 N eR f) 419 (nI a) g (mk s) = lX12_readSum_5 N eR f 419 (nI a) (mk s4) := by
    unfold bX12_readSum_39
    rw [cV12, b1, cS_l, cV12, b2, cS_l, cV12, b3, cS_l]
  show bX12_readSum_5 N eR (lX12_readSum_5 N eR f) 419 (nI a) (mk s) = _
  unfold bX12_readSum_5
  rw [cV12, r_sgn (c := 43) (x := 43) hL hT h rfl (by decide), cS_l]
  rcases tSum_s ht with ⟨t1, hg⟩ | ⟨t1, t2, hg⟩
  · rw [t1, if_pos (by decide)]
    unfold bX12_readSum_23
    rw [cV12, r_sgn (c := 43) (x := 43) hL hT h rfl (by decide), cS_l, t1, if_neg (by decide)]
    rw [hg] at key
    exact key
  · rw [t1, if_neg (fun z => z rfl), cV12, r_sgn (c := 45) (x := 45) hL hT h rfl (by decide), cS_l, t2, if_neg (by decide)]
    unfold bX12_readSum_23
    rw [cV12, r_sgn (c := 43) (x := 43) hL hT h rfl (by decide), cS_l, t1, if_pos (by decide)]
    rw [hg] at key
    exact key
theorem lvSum (hN1 : 1000 ≤ N) (hL : L ≤ 700) (hT : ∀ j, j < L → T j < 256) (hp : plA p) (hF : Lv T L p d (fX2_readsProduct N eC 34 (nI a)) (fX12_readProduct N eR 419 (nI a))) : Lv T L p (d + 1) (fX2_readsSum N eC 34 (nI a)) (fX12_readSum N eR 419 (nI a)) :=
  Lv_loop (lC := fun f i c => lX2_readsSum_7 N eC f 34 (nI a) i c) (lR := fun f c => lX12_readSum_5 N eR f 419 (nI a) c) hN1 hL hT hp tSum_o hF (cSum_0 hL hT) (cSum_1 hL hT) (cSum_2 hL hT hp) (rSum_0 hL hT) rSum_b (rSum_1 hL hT) (fun s => by
    unfold fX2_readsSum bX2_readsSum_0
    rw [cV34]
    rfl) (fun s => by
    unfold fX12_readSum bX12_readSum_0
    rw [cV12])
def tAnd (T : Nat → Nat) (L e : Nat) : Option Int32 := if isW T L e (sw 7 3 0) = true then some (-26) else none
theorem tAnd_n {e : Nat} (h : tAnd T L e = none) : isW T L e (sw 7 3 0) = false := by
  unfold tAnd at h
  cases c : isW T L e (sw 7 3 0) with
  | true => rw [c, if_pos rfl] at h; cases h
  | false => rfl
theorem tAnd_s {e : Nat} {g : Int32} (h : tAnd T L e = some g) : isW T L e (sw 7 3 0) = true ∧ g = -26 := by
  unfold tAnd at h
  cases c : isW T L e (sw 7 3 0) with
  | true => rw [c, if_pos rfl] at h; exact ⟨rfl, (Option.some.inj h).symm⟩
  | false => rw [c, if_neg (by decide)] at h; cases h
theorem tAnd_o : ∀ e g, tAnd T L e = some g → opq g ∧ ¬ tkK T L e = 0 := by
  intro e g h
  obtain ⟨c, hg⟩ := tAnd_s h
  have := of_decide_eq_true c
  exact ⟨by rw [hg]; unfold opq; decide, by omega⟩
theorem cAnd_0 (hN1 : 1000 ≤ N) (hL : L ≤ 700) (hT : ∀ j, j < L → T j < 256) : ∀ f i s e k Q, CPs T L p s e k Q → i < 700 → e ≤ L → tAnd T L e = none → lX2_readsAnd_7 N eC (f + 1) 34 (nI a) (nI i) (mk s) = some (.inl (), mk s) := by
  intro f i s e k Q h hi he ht
  have t1 := tAnd_n ht
  show bX2_readsAnd_7 N eC (lX2_readsAnd_7 N eC f) 34 (nI a) (nI i) (mk s) = _
  unfold bX2_readsAnd_7
  rw [if_neg (show ¬ (700 : Int32) ≤ nI i from nI_ge (b := 700) hi (by omega)), gR34, ob_s, cV10, c_wrd hN1 okW_7 hL hT he h, cS_l, t1, if_pos (by decide)]
theorem cAnd_1 (hN1 : 1000 ≤ N) (hL : L ≤ 700) (hT : ∀ j, j < L → T j < 256) : ∀ f i s e k Q g s2 s3, CPs T L p s e k Q → i < 700 → e ≤ L → tAnd T L e = some g → fX10_advances N 35 (mk s) = some (.inl (), mk s2) → fX2_readsNot N eC 34 (nI a) (mk s2) = some (.inr 0, mk s3) → lX2_readsAnd_7 N eC (f + 1) 34 (nI a) (nI i) (mk s) = some (.inr 0, mk s3) := by
  intro f i s e k Q g s2 s3 h hi he ht b1 b2
  obtain ⟨t1, hg⟩ := tAnd_s ht
  show bX2_readsAnd_7 N eC (lX2_readsAnd_7 N eC f) 34 (nI a) (nI i) (mk s) = _
  unfold bX2_readsAnd_7
  rw [if_neg (show ¬ (700 : Int32) ≤ nI i from nI_ge (b := 700) hi (by omega)), gR34, ob_s, cV10, c_wrd hN1 okW_7 hL hT he h, cS_l, t1, if_neg (by decide), gR34, ob_s, cV10, b1, cS_l, cV34, b2, cS_r]
theorem cAnd_2 (hN1 : 1000 ≤ N) (hL : L ≤ 700) (hT : ∀ j, j < L → T j < 256) (hp : plA p) : ∀ f i s e k Q g s2 s3 s4, CPs T L p s e k Q → i < 700 → e ≤ L → tAnd T L e = some g → fX10_advances N 35 (mk s) = some (.inl (), mk s2) → fX2_readsNot N eC 34 (nI a) (mk s2) = some (.inl (), mk s3) → s3.2.1 34 3 = p → fX4_emits N (p + 4) (trc g) (mk s3) = some (.inl (), mk s4) → lX2_readsAnd_7 N eC (f + 1) 34 (nI a) (nI i) (mk s) = lX2_readsAnd_7 N eC f 34 (nI a) (nI (i + 1)) (mk s4) := by
  intro f i s e k Q g s2 s3 s4 h hi he ht b1 b2 b3 b4
  obtain ⟨t1, hg⟩ := tAnd_s ht
  have b5 : fX4_emits N (p + 4) (-12 : Int32) (mk s3) = some (.inl (), mk s4) := by rw [hg] at b4; exact b4
  show bX2_readsAnd_7 N eC (lX2_readsAnd_7 N eC f) 34 (nI a) (nI i) (mk s) = _
  unfold bX2_readsAnd_7
  rw [if_neg (show ¬ (700 : Int32) ≤ nI i from nI_ge (b := 700) hi (by omega)), gR34, ob_s, cV10, c_wrd hN1 okW_7 hL hT he h, cS_l, t1, if_neg (by decide), gR34, ob_s, cV10, b1, cS_l, cV34, b2, cS_l, gR34p, ob_s, b3, gR38 hp, ob_s, cV44 hp, b5, cS_l, nI_1]
theorem rAnd_0 (hN1 : 1000 ≤ N) (hL : L ≤ 700) (hT : ∀ j, j < L → T j < 256) : ∀ f s e k Q, RPs T L s e k Q → e ≤ L → tAnd T L e = none → lX12_readAnd_5 N eR (f + 1) 419 (nI a) (mk s) = some (.inl (), mk s) := by
  intro f s e k Q h he ht
  have t1 := tAnd_n ht
  show bX12_readAnd_5 N eR (lX12_readAnd_5 N eR f) 419 (nI a) (mk s) = _
  unfold bX12_readAnd_5
  rw [cV12, r_wrd hN1 okW_7 hL hT he h, cS_l, t1, if_pos (by decide)]
theorem rAnd_b (hN1 : 1000 ≤ N) : ∀ f (s : sg), ¬ s.1 419 23 = 0 → lX12_readAnd_5 N eR (f + 1) 419 (nI a) (mk s) = some (.inl (), mk s) := by
  intro f s hb
  show bX12_readAnd_5 N eR (lX12_readAnd_5 N eR f) 419 (nI a) (mk s) = _
  unfold bX12_readAnd_5
  rw [cV12, r_isb hN1 hb, cS_l, if_pos rfl]
theorem rAnd_1 (hN1 : 1000 ≤ N) (hL : L ≤ 700) (hT : ∀ j, j < L → T j < 256) : ∀ f s e k Q g s2 s3 s4, RPs T L s e k Q → e ≤ L → tAnd T L e = some g → fX12_stepOn N 419 (mk s) = some (.inl (), mk s2) → fX12_readNot N eR 419 (nI a) (mk s2) = some (.inl (), mk s3) → fX12_lay N 419 g (mk s3) = some (.inl (), mk s4) → lX12_readAnd_5 N eR (f + 1) 419 (nI a) (mk s) = lX12_readAnd_5 N eR f 419 (nI a) (mk s4) := by
  intro f s e k Q g s2 s3 s4 h he ht b1 b2 b3
  obtain ⟨t1, hg⟩ := tAnd_s ht
  rw [hg] at b3
  show bX12_readAnd_5 N eR (lX12_readAnd_5 N eR f) 419 (nI a) (mk s) = _
  unfold bX12_readAnd_5
  rw [cV12, r_wrd hN1 okW_7 hL hT he h, cS_l, t1, if_neg (by decide), cV12, b1, cS_l, cV12, b2, cS_l, cV12, b3, cS_l]
theorem lvAnd (hN1 : 1000 ≤ N) (hL : L ≤ 700) (hT : ∀ j, j < L → T j < 256) (hp : plA p) (hF : Lv T L p d (fX2_readsNot N eC 34 (nI a)) (fX12_readNot N eR 419 (nI a))) : Lv T L p (d + 1) (fX2_readsAnd N eC 34 (nI a)) (fX12_readAnd N eR 419 (nI a)) :=
  Lv_loop (lC := fun f i c => lX2_readsAnd_7 N eC f 34 (nI a) i c) (lR := fun f c => lX12_readAnd_5 N eR f 419 (nI a) c) hN1 hL hT hp tAnd_o hF (cAnd_0 hN1 hL hT) (cAnd_1 hN1 hL hT) (cAnd_2 hN1 hL hT hp) (rAnd_0 hN1 hL hT) (rAnd_b hN1) (rAnd_1 hN1 hL hT) (fun s => by
    unfold fX2_readsAnd bX2_readsAnd_0
    rw [cV34]
    rfl) (fun s => by
    unfold fX12_readAnd bX12_readAnd_0
    rw [cV12])
def tOr (T : Nat → Nat) (L e : Nat) : Option Int32 := if isW T L e (sw 8 2 0) = true then some (-27) else none
theorem tOr_n {e : Nat} (h : tOr T L e = none) : isW T L e (sw 8 2 0) = false := by
  unfold tOr at h
  cases c : isW T L e (sw 8 2 0) with
  | true => rw [c, if_pos rfl] at h; cases h
  | false => rfl
theorem tOr_s {e : Nat} {g : Int32} (h : tOr T L e = some g) : isW T L e (sw 8 2 0) = true ∧ g = -27 := by
  unfold tOr at h
  cases c : isW T L e (sw 8 2 0) with
  | true => rw [c, if_pos rfl] at h; exact ⟨rfl, (Option.some.inj h).symm⟩
  | false => rw [c, if_neg (by decide)] at h; cases h
theorem tOr_o : ∀ e g, tOr T L e = some g → opq g ∧ ¬ tkK T L e = 0 := by
  intro e g h
  obtain ⟨c, hg⟩ := tOr_s h
  have := of_decide_eq_true c
  exact ⟨by rw [hg]; unfold opq; decide, by omega⟩
theorem cOr_0 (hN1 : 1000 ≤ N) (hL : L ≤ 700) (hT : ∀ j, j < L → T j < 256) : ∀ f i s e k Q, CPs T L p s e k Q → i < 700 → e ≤ L → tOr T L e = none → lX2_readsExpr_29 N eC (f + 1) 34 (nI a) (nI i) (mk s) = some (.inl (), mk s) := by
  intro f i s e k Q h hi he ht
  have t1 := tOr_n ht
  show bX2_readsExpr_29 N eC (lX2_readsExpr_29 N eC f) 34 (nI a) (nI i) (mk s) = _
  unfold bX2_readsExpr_29
  rw [if_neg (show ¬ (700 : Int32) ≤ nI i from nI_ge (b := 700) hi (by omega)), gR34, ob_s, cV10, c_wrd hN1 okW_8 hL hT he h, cS_l, t1, if_pos (by decide)]
theorem cOr_1 (hN1 : 1000 ≤ N) (hL : L ≤ 700) (hT : ∀ j, j < L → T j < 256) : ∀ f i s e k Q g s2 s3, CPs T L p s e k Q → i < 700 → e ≤ L → tOr T L e = some g → fX10_advances N 35 (mk s) = some (.inl (), mk s2) → fX2_readsAnd N eC 34 (nI a) (mk s2) = some (.inr 0, mk s3) → lX2_readsExpr_29 N eC (f + 1) 34 (nI a) (nI i) (mk s) = some (.inr 0, mk s3) := by
  intro f i s e k Q g s2 s3 h hi he ht b1 b2
  obtain ⟨t1, hg⟩ := tOr_s ht
  show bX2_readsExpr_29 N eC (lX2_readsExpr_29 N eC f) 34 (nI a) (nI i) (mk s) = _
  unfold bX2_readsExpr_29
  rw [if_neg (show ¬ (700 : Int32) ≤ nI i from nI_ge (b := 700) hi (by omega)), gR34, ob_s, cV10, c_wrd hN1 okW_8 hL hT he h, cS_l, t1, if_neg (by decide), gR34, ob_s, cV10, b1, cS_l, cV34, b2, cS_r]
theorem cOr_2 (hN1 : 1000 ≤ N) (hL : L ≤ 700) (hT : ∀ j, j < L → T j < 256) (hp : plA p) : ∀ f i s e k Q g s2 s3 s4, CPs T L p s e k Q → i < 700 → e ≤ L → tOr T L e = some g → fX10_advances N 35 (mk s) = some (.inl (), mk s2) → fX2_readsAnd N eC 34 (nI a) (mk s2) = some (.inl (), mk s3) → s3.2.1 34 3 = p → fX4_emits N (p + 4) (trc g) (mk s3) = some (.inl (), mk s4) → lX2_readsExpr_29 N eC (f + 1) 34 (nI a) (nI i) (mk s) = lX2_readsExpr_29 N eC f 34 (nI a) (nI (i + 1)) (mk s4) := by
  intro f i s e k Q g s2 s3 s4 h hi he ht b1 b2 b3 b4
  obtain ⟨t1, hg⟩ := tOr_s ht
  have b5 : fX4_emits N (p + 4) (-11 : Int32) (mk s3) = some (.inl (), mk s4) := by rw [hg] at b4; exact b4
  show bX2_readsExpr_29 N eC (lX2_readsExpr_29 N eC f) 34 (nI a) (nI i) (mk s) = _
  unfold bX2_readsExpr_29
  rw [if_neg (show ¬ (700 : Int32) ≤ nI i from nI_ge (b := 700) hi (by omega)), gR34, ob_s, cV10, c_wrd hN1 okW_8 hL hT he h, cS_l, t1, if_neg (by decide), gR34, ob_s, cV10, b1, cS_l, cV34, b2, cS_l, gR34p, ob_s, b3, gR38 hp, ob_s, cV44 hp, b5, cS_l, nI_1]
theorem rOr_0 (hN1 : 1000 ≤ N) (hL : L ≤ 700) (hT : ∀ j, j < L → T j < 256) : ∀ f s e k Q, RPs T L s e k Q → e ≤ L → tOr T L e = none → lX12_readExpression_67 N eR (f + 1) 419 (nI a) (mk s) = some (.inl (), mk s) := by
  intro f s e k Q h he ht
  have t1 := tOr_n ht
  show bX12_readExpression_67 N eR (lX12_readExpression_67 N eR f) 419 (nI a) (mk s) = _
  unfold bX12_readExpression_67
  rw [cV12, r_wrd hN1 okW_8 hL hT he h, cS_l, t1, if_pos (by decide)]
theorem rOr_b (hN1 : 1000 ≤ N) : ∀ f (s : sg), ¬ s.1 419 23 = 0 → lX12_readExpression_67 N eR (f + 1) 419 (nI a) (mk s) = some (.inl (), mk s) := by
  intro f s hb
  show bX12_readExpression_67 N eR (lX12_readExpression_67 N eR f) 419 (nI a) (mk s) = _
  unfold bX12_readExpression_67
  rw [cV12, r_isb hN1 hb, cS_l, if_pos rfl]
theorem rOr_1 (hN1 : 1000 ≤ N) (hL : L ≤ 700) (hT : ∀ j, j < L → T j < 256) : ∀ f s e k Q g s2 s3 s4, RPs T L s e k Q → e ≤ L → tOr T L e = some g → fX12_stepOn N 419 (mk s) = some (.inl (), mk s2) → fX12_readAnd N eR 419 (nI a) (mk s2) = some (.inl (), mk s3) → fX12_lay N 419 g (mk s3) = some (.inl (), mk s4) → lX12_readExpression_67 N eR (f + 1) 419 (nI a) (mk s) = lX12_readExpression_67 N eR f 419 (nI a) (mk s4) := by
  intro f s e k Q g s2 s3 s4 h he ht b1 b2 b3
  obtain ⟨t1, hg⟩ := tOr_s ht
  rw [hg] at b3
  show bX12_readExpression_67 N eR (lX12_readExpression_67 N eR f) 419 (nI a) (mk s) = _
  unfold bX12_readExpression_67
  rw [cV12, r_wrd hN1 okW_8 hL hT he h, cS_l, t1, if_neg (by decide), cV12, b1, cS_l, cV12, b2, cS_l, cV12, b3, cS_l]
theorem lvOr (hN1 : 1000 ≤ N) (hL : L ≤ 700) (hT : ∀ j, j < L → T j < 256) (hp : plA p) (hF : Lv T L p d (fX2_readsAnd N eC 34 (nI a)) (fX12_readAnd N eR 419 (nI a))) : Lv T L p (d + 1) (bX2_readsExpr_22 N eC 34 (nI a)) (bX12_readExpression_62 N eR 419 (nI a)) :=
  Lv_loop (lC := fun f i c => lX2_readsExpr_29 N eC f 34 (nI a) i c) (lR := fun f c => lX12_readExpression_67 N eR f 419 (nI a) c) hN1 hL hT hp tOr_o hF (cOr_0 hN1 hL hT) (cOr_1 hN1 hL hT) (cOr_2 hN1 hL hT hp) (rOr_0 hN1 hL hT) (rOr_b hN1) (rOr_1 hN1 hL hT) (fun s => by
    unfold bX2_readsExpr_22
    rw [cV34]
    rfl) (fun s => by
    unfold bX12_readExpression_62
    rw [cV12])
end LO
