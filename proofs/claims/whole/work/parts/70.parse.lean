/- needs: 69.words -/
/-! reading on: the two readers' states -/
def tW (T : Nat → Nat) (L e : Nat) : List Nat := tw T (tkE T L e - tkA T L e) (tkA T L e)
def nV (T : Nat → Nat) (L e : Nat) : Nat := vN T (tkE T L e - tkA T L e) (tkA T L e) 0
theorem rnk_d (T : Nat → Nat) (L k : Nat) : ∀ f p j, p ≤ j → j < rnk T L k f p → kdN (T j) = k
  | 0, p, j, h1, h2 => by
    have h2 : j < p := h2
    omega
  | f + 1, p, j, h1, h2 => by
    rw [rnk_s] at h2
    by_cases c : p < L ∧ kdN (T p) = k
    · rw [if_pos c] at h2
      by_cases c2 : j = p
      · rw [c2]; exact c.2
      · exact rnk_d T L k f (p + 1) j (by omega) h2
    · rw [if_neg c] at h2
      omega
theorem vN_lt (T : Nat → Nat) : ∀ n p x, (∀ j, p ≤ j → j < p + n → T j ≤ 57) → vN T n p x < (x + 1) * 10 ^ n
  | 0, p, x, h => by
    show x < (x + 1) * 1
    omega
  | n + 1, p, x, h => by
    rw [vN_s]
    have h0 := h p (by omega) (by omega)
    have h1 := vN_lt T n (p + 1) (10 * x + T p - 48) (fun j h2 h3 => h j (by omega) (by omega))
    have h10 : (x + 1) * 10 ^ (n + 1) = (10 * (x + 1)) * 10 ^ n := by rw [Nat.pow_succ, Nat.mul_comm (10 ^ n) 10, ← Nat.mul_assoc, Nat.mul_comm (x + 1) 10]
    rw [h10]
    exact Nat.lt_of_lt_of_le h1 (Nat.mul_le_mul_right _ (by omega))
section TKF
variable {T : Nat → Nat} {L e : Nat}
theorem tkK_4 : tkK T L e ≤ 4 := by
  unfold tkK
  have := kdN_le (T (tkA T L e))
  split <;> omega
theorem tkK_A (h : ¬ tkK T L e = 0) : tkA T L e < L := by
  unfold tkK at h
  by_cases c : tkA T L e < L
  · exact c
  · rw [if_neg c] at h
    exact absurd rfl h
theorem tkK_k (h : ¬ tkK T L e = 0) : tkK T L e = kdN (T (tkA T L e)) := by
  have c := tkK_A h
  unfold tkK
  rw [if_pos c]
theorem tkE_gt (he : e ≤ L) (h : ¬ tkK T L e = 0) : tkA T L e < tkE T L e := by
  have ha := tkK_A h
  unfold tkE
  rw [if_pos ha]
  by_cases c2 : kdN (T (tkA T L e)) = 1 ∨ kdN (T (tkA T L e)) = 2
  · rw [if_pos c2]
    have := rnk_le T L (kdN (T (tkA T L e))) (L - (tkA T L e + 1)) (tkA T L e + 1) (by omega)
    omega
  · rw [if_neg c2]; omega
theorem tkE_2 (h : tkK T L e = 2) : tkE T L e = rnk T L 2 (L - tkA T L e) (tkA T L e) := by
  have h0 : ¬ tkK T L e = 0 := by omega
  have ha := tkK_A h0
  have hk := tkK_k h0
  rw [h] at hk
  obtain ⟨g, hg, hg2⟩ := sub1 ha
  unfold tkE
  rw [if_pos ha, if_pos (Or.inr hk.symm), ← hk, hg, rnk_s, if_pos ⟨ha, hk.symm⟩, hg2]
theorem tkD (h : tkK T L e = 2) : ∀ j, tkA T L e ≤ j → j < tkE T L e → kdN (T j) = 2 := by
  intro j h1 h2
  rw [tkE_2 h] at h2
  exact rnk_d T L 2 _ _ j h1 h2
theorem nmf_tk (hT : ∀ j, j < L → T j < 256) (h : tkK T L e = 2) (h4 : tkE T L e ≤ tkA T L e + 4) : nmf T L (L - tkA T L e) (tkA T L e) 0 = nV T L e := by
  have ha := tkK_A (show ¬ tkK T L e = 0 by omega)
  have h9 : 10 ^ (tkE T L e - tkA T L e) ≤ 10 ^ 4 := Nat.pow_le_pow_right (by omega) (by omega)
  have hv := nmf_v hT (L - tkA T L e) (tkA T L e) 0 (by omega) (by
    rw [← tkE_2 h]
    omega)
  rw [hv, ← tkE_2 h]
  rfl
theorem nV_lt (hT : ∀ j, j < L → T j < 256) (he : e ≤ L) (h : tkK T L e = 2) (h4 : tkE T L e ≤ tkA T L e + 4) : nV T L e < 10000 := by
  have hE := (tkE_le (T := T) he).2
  have h9 : 10 ^ (tkE T L e - tkA T L e) ≤ 10 ^ 4 := Nat.pow_le_pow_right (by omega) (by omega)
  have := vN_lt T (tkE T L e - tkA T L e) (tkA T L e) 0 (fun j h1 h2 => (kd_2 (T j) (hT j (by omega)) (tkD h j h1 (by omega))).2)
  unfold nV
  omega
end TKF
/-- the fault of a token where a number must stand -/
def nF (T : Nat → Nat) (L e : Nat) : Nat := if tkK T L e = 2 then (if tkA T L e + 4 < tkE T L e then 2 else 0) else 1
def nG (T : Nat → Nat) (L e lo hi : Nat) : Nat := if nF T L e = 0 then (if nV T L e < lo ∨ hi < nV T L e then 2 else 0) else nF T L e
theorem nF_0 {T : Nat → Nat} {L e : Nat} (h : nF T L e = 0) : tkK T L e = 2 ∧ tkE T L e ≤ tkA T L e + 4 := by
  unfold nF at h
  by_cases c : tkK T L e = 2
  · rw [if_pos c] at h
    by_cases c2 : tkA T L e + 4 < tkE T L e
    · rw [if_pos c2] at h; omega
    · exact ⟨c, by omega⟩
  · rw [if_neg c] at h; omega
theorem nG_0 {T : Nat → Nat} {L e lo hi : Nat} (h : nG T L e lo hi = 0) : nF T L e = 0 ∧ lo ≤ nV T L e ∧ nV T L e ≤ hi := by
  unfold nG at h
  by_cases c : nF T L e = 0
  · rw [if_pos c] at h
    by_cases c2 : nV T L e < lo ∨ hi < nV T L e
    · rw [if_pos c2] at h; omega
    · exact ⟨c, by omega, by omega⟩
  · rw [if_neg c] at h; omega
theorem nF_2 (T : Nat → Nat) (L e : Nat) : nF T L e ≤ 2 := by
  unfold nF
  split
  · split <;> omega
  · omega
theorem nG_2 (T : Nat → Nat) (L e lo hi : Nat) : nG T L e lo hi ≤ 2 := by
  have := nF_2 T L e
  unfold nG
  split
  · split <;> omega
  · omega
def CPs (T : Nat → Nat) (L p : Nat) (s : sg) (e k : Nat) (Q : Nat → Int32) : Prop := s.2.1 34 3 = p ∧ TxC s L T ∧ TkC s (tkK T L e) (tkA T L e) (tkE T L e) ∧ s.1 (p + 4) 2 = nI k ∧ ∀ j, j < k → s.1 (p + 5) j = trc (Q j)
def RPs (T : Nat → Nat) (L : Nat) (s : sg) (e k : Nat) (Q : Nat → Int32) : Prop := TxR s L T ∧ TkR s (tkK T L e) (tkA T L e) (tkE T L e) ∧ (tkK T L e = 2 → s.1 419 20 = nI (nmf T L (L - tkA T L e) (tkA T L e) 0)) ∧ s.1 419 23 = 0 ∧ s.1 422 14 = nI k ∧ ∀ j, j < k → s.1 432 (700 + j) = Q j
def cE (p x j : Nat) : Prop := (x = 35 ∧ (j = 0 ∨ j = 1 ∨ j = 4)) ∨ x = p + 5 ∨ (x = p + 4 ∧ j = 2) ∨ (x = 34 ∧ j ≤ 1)
def rE (x j : Nat) : Prop := (x = 419 ∧ (j = 17 ∨ (19 ≤ j ∧ j ≤ 24))) ∨ (x = 432 ∧ 700 ≤ j) ∨ (x = 422 ∧ j = 14)
theorem rT_E (x j : Nat) (h : rT x j) : rE x j := by unfold rT at h; unfold rE; omega
section PS
variable {N : Nat} {s : sg} {T : Nat → Nat} {L p e k : Nat} {Q : Nat → Int32}
theorem gR34 : gR (mk s) 34 2 2 = some 35 := gR_k ⟨rfl, rfl, by decide⟩
theorem gR34p : gR (mk s) 34 2 3 = some (s.2.1 34 3) := gR_k ⟨rfl, rfl, by decide⟩
theorem gI34 (j : Nat) (h : fI 2 j = true) : gI (mk s) 34 2 j = some (s.1 34 j) := gI_k ⟨rfl, h, by decide⟩
theorem pI34 (j : Nat) (h : fI 2 j = true) {x : Int32} : pI (mk s) 34 2 j x = some (mk (sI s 34 j x)) := pI_k ⟨rfl, h, by decide⟩
theorem cV34 {α β : Type} {x : mR α} {f : α → mm_C → mR β} : cV 2 34 (mk s) x f = cS x f := cV_k ⟨rfl, by decide⟩
theorem plK (hp : plA p) : kc p = 3 ∧ kc (p + 4) = 4 ∧ kc (p + 5) = 20 ∧ kn (p + 5) = 700 := by
  rcases hp with rfl | rfl <;> exact ⟨rfl, rfl, rfl, rfl⟩
theorem gR38 (hp : plA p) : gR (mk s) p 3 8 = some (p + 4) := gR_k ⟨(plK hp).1, rfl, by decide⟩
theorem cV44 (hp : plA p) {α β : Type} {x : mR α} {f : α → mm_C → mR β} : cV 4 (p + 4) (mk s) x f = cS x f := cV_k ⟨(plK hp).2.1, by decide⟩
theorem CPs_adv (hN1 : 1000 ≤ N) (hL : L ≤ 700) (hT : ∀ j, j < L → T j < 256) (hp : plA p) (he : e ≤ L) (h : CPs T L p s e k Q) : ∃ s', fX10_advances N 35 (mk s) = some (.inl (), mk s') ∧ CPs T L p s' (tkE T L e) k Q ∧ Fr (cE p) s s' := by
  have hp' : p = 2 ∨ p = 18 := hp
  obtain ⟨h1, h2, h3, h4, h5⟩ := h
  obtain ⟨s', b1, b2, b3, b4⟩ := c_adv (N := N) hN1 hL hT h2 (tkE_le (T := T) he).2 h3.2.2
  refine ⟨s', b1, ⟨(b4.2.1 _ _ (by omega)).trans h1, b3, b2, (b4.1 _ _ (by omega)).trans h4, fun j hj => (b4.1 _ _ (by omega)).trans (h5 j hj)⟩, Fr_m b4 (by intro x j g; unfold cE; omega)⟩
theorem RPs_step (hN1 : 1000 ≤ N) (hL : L ≤ 700) (hT : ∀ j, j < L → T j < 256) (he : e ≤ L) (h : RPs T L s e k Q) : ∃ s', fX12_stepOn N 419 (mk s) = some (.inl (), mk s') ∧ RPs T L s' (tkE T L e) k Q ∧ Fr rE s s' := by
  obtain ⟨h1, h2, h3, h4, h5, h6⟩ := h
  obtain ⟨s', b1, b2, b3, b4, b5⟩ := r_step (N := N) hN1 hL hT h1 (tkE_le (T := T) he).2 h2.2.2.2
  refine ⟨s', b1, ⟨b4, b2, b3, (b5.1 _ _ (by unfold rT; omega)).trans h4, (b5.1 _ _ (by unfold rT; omega)).trans h5, fun j hj => (b5.1 _ _ (by unfold rT; omega)).trans (h6 j hj)⟩, Fr_m b5 rT_E⟩
theorem c_emit (hp : plA p) (hk : k < 700) (h : CPs T L p s e k Q) {g x : Int32} (hx : x = trc g) : ∃ s', fX4_emits N (p + 4) x (mk s) = some (.inl (), mk s') ∧ CPs T L p s' e (k + 1) (up1 Q k g) ∧ Fr (cE p) s s' := by
  have hp' : p = 2 ∨ p = 18 := hp
  obtain ⟨k1, k2, k3, k4⟩ := plK hp
  obtain ⟨h1, h2, h3, h4, h5⟩ := h
  have i1 : inB (nI k) (kn (p + 5)) = true := by rw [k4]; exact inA_nI hk (by omega)
  have g1 : ∀ s : sg, gI (mk s) (p + 4) 4 2 = some (s.1 (p + 4) 2) := fun s => gI_k ⟨k2, rfl, by decide⟩
  have g2 : gR (mk s) (p + 4) 4 1 = some (p + 5) := gR_k ⟨k2, rfl, by decide⟩
  have e1 : (sI s (p + 5) k x).1 (p + 4) 2 = nI k := by rw [sI_1, if_neg (by omega)]; exact h4
  refine ⟨sI (sI s (p + 5) k x) (p + 4) 2 (nI (k + 1)), ?_, ⟨h1, ⟨?_, fun j hj => ?_⟩, ⟨?_, ?_, ?_⟩, sI_at _ _ _ _, fun j hj => ?_⟩, Fr_t (Fr_sI (by unfold cE; omega)) (Fr_sI (by unfold cE; omega))⟩
  · unfold fX4_emits bX4_emits_0
    rw [g1, ob_s, h4, if_neg (show ¬ (700 : Int32) ≤ nI k from nI_ge (b := 700) hk (by omega)), g2, ob_s, ob_s, tI_k ⟨k3, i1⟩, ob_s, nI_clamp (by omega), g1, ob_s, e1, nI_1, pI_k ⟨k2, rfl, by decide⟩, ob_s]
  · rw [sI_1, if_neg (by omega), sI_1, if_neg (by omega)]; exact h2.1
  · rw [sI_1, if_neg (by omega), sI_1, if_neg (by omega)]; exact h2.2 j hj
  · rw [sI_1, if_neg (by omega), sI_1, if_neg (by omega)]; exact h3.1
  · rw [sI_1, if_neg (by omega), sI_1, if_neg (by omega)]; exact h3.2.1
  · rw [sI_1, if_neg (by omega), sI_1, if_neg (by omega)]; exact h3.2.2
  · rw [sI_1, if_neg (by omega), sI_1]
    unfold up1
    by_cases c : j = k
    · rw [if_pos ⟨rfl, c⟩, if_pos c, hx]
    · rw [if_neg (fun z => c z.2), if_neg c]; exact h5 j (by omega)
theorem r_lay (hk : k < 700) (h : RPs T L s e k Q) (g : Int32) : ∃ s', fX12_lay N 419 g (mk s) = some (.inl (), mk s') ∧ RPs T L s' e (k + 1) (up1 Q k g) ∧ Fr rE s s' := by
  obtain ⟨h1, h2, h3, h4, h5, h6⟩ := h
  have i1 : inB (nI (700 + k)) 1400 = true := inA_nI (by omega) (by omega)
  have e7 : (700 : Int32) + nI k = nI (700 + k) := nI_add 700 k
  have e1 : (sI s 432 (700 + k) g).1 422 14 = nI k := by rw [sI_1, if_neg (by omega)]; exact h5
  have a14 : ∀ s : sg, aI (mk s) 422 (14 : Int32) = some (s.1 422 14) := fun s => aI_k (i := 14) ⟨rfl, by decide⟩
  have t14 : ∀ (s : sg) (x : Int32), tI (mk s) 422 (14 : Int32) x = some (mk (sI s 422 14 x)) := fun s x => tI_k (i := 14) ⟨rfl, by decide⟩
  refine ⟨sI (sI s 432 (700 + k) g) 422 14 (nI (k + 1)), ?_, ⟨⟨?_, fun j hj => ?_⟩, ⟨?_, ?_, ?_, ?_⟩, fun w => ?_, ?_, sI_at _ _ _ _, fun j hj => ?_⟩, Fr_t (Fr_sI (by unfold rE; omega)) (Fr_sI (by unfold rE; omega))⟩
  · unfold fX12_lay bX12_lay_0
    rw [gI12 23 rfl, ob_s, h4, if_pos rfl, gR12 13 432 rfl rfl, ob_s, gR12 3 422 rfl rfl, ob_s, a14, ob_s, h5, e7, tI_k ⟨rfl, i1⟩, ob_s, nI_clamp (by omega), gR12 3 422 rfl rfl, ob_s, a14, ob_s, e1, t14, ob_s]
    exact congrArg (fun y => some (Sum.inl (), mk (sI (sI s 432 (700 + k) g) 422 14 y))) (nI_1 k)
  · rw [sI_1, if_neg (by omega), sI_1, if_neg (by omega)]; exact h1.1
  · rw [sI_1, if_neg (by omega), sI_1, if_neg (by omega)]; exact h1.2 j hj
  · rw [sI_1, if_neg (by omega), sI_1, if_neg (by omega)]; exact h2.1
  · rw [sI_1, if_neg (by omega), sI_1, if_neg (by omega)]; exact h2.2.1
  · rw [sI_1, if_neg (by omega), sI_1, if_neg (by omega)]; exact h2.2.2.1
  · rw [sI_1, if_neg (by omega), sI_1, if_neg (by omega)]; exact h2.2.2.2
  · rw [sI_1, if_neg (by omega), sI_1, if_neg (by omega)]; exact h3 w
  · rw [sI_1, if_neg (by omega), sI_1, if_neg (by omega)]; exact h4
  · rw [sI_1, if_neg (by omega), sI_1]
    unfold up1
    by_cases c : j = k
    · rw [if_pos (by omega), if_pos c]
    · rw [if_neg (by omega), if_neg c]; exact h6 j (by omega)
theorem c_ref (h : CPs T L p s e k Q) {f : Nat} {x : Int32} (hx : x = nI f) : ∃ s', fX2_refuses N 34 x (mk s) = some (.inr 0, mk s') ∧ s'.1 34 1 = nI f ∧ s'.1 34 0 = nI (tkA T L e) ∧ Fr (cE p) s s' := by
  have e1 : (sI s 34 1 x).1 35 1 = nI (tkA T L e) := by rw [sI_1, if_neg (by omega)]; exact h.2.2.1.2.1
  refine ⟨sI (sI s 34 1 x) 34 0 (nI (tkA T L e)), ?_, ?_, sI_at _ _ _ _, Fr_t (Fr_sI (by unfold cE; omega)) (Fr_sI (by unfold cE; omega))⟩
  · unfold fX2_refuses bX2_refuses_0
    rw [pI34 1 rfl, ob_s, gR34, ob_s, gI10 1 rfl, ob_s, e1, pI34 0 rfl, ob_s]
  · rw [sI_1, if_neg (by omega), sI_at, hx]
theorem r_wr (h : RPs T L s e k Q) {f : Nat} {x : Int32} (hx : x = nI f) : ∃ s', fX12_wrong N 419 x (mk s) = some (.inl (), mk s') ∧ s'.1 419 23 = nI f ∧ s'.1 419 24 = nI (tkA T L e) ∧ Fr rE s s' := by
  have e1 : (sI s 419 23 x).1 419 21 = nI (tkA T L e) := by rw [sI_1, if_neg (by omega)]; exact h.2.1.2.1
  refine ⟨sI (sI s 419 23 x) 419 24 (nI (tkA T L e)), ?_, ?_, sI_at _ _ _ _, Fr_t (Fr_sI (by unfold rE; omega)) (Fr_sI (by unfold rE; omega))⟩
  · unfold fX12_wrong bX12_wrong_0
    rw [gI12 23 rfl, ob_s, h.2.2.2.1, if_pos rfl, pI12 23 rfl, ob_s, gI12 21 rfl, ob_s, e1, pI12 24 rfl, ob_s]
  · rw [sI_1, if_neg (by omega), sI_at, hx]
theorem nI_b {f : Nat} (h1 : 1 ≤ f) (h2 : f ≤ 4) : ¬ nI f = 0 := fun z => by
  have := (nI_inj (b := 0) (by omega) (by omega)).mp z
  omega
/-! numbers -/
theorem c_look0 (hN1 : 1000 ≤ N) (hL : L ≤ 700) (hT : ∀ j, j < L → T j < 256) (he : e ≤ L) (h : CPs T L p s e k Q) (hf : nF T L e = 0) : fX2_lookAtNumber N 34 (mk s) = some (.inl (nI (nV T L e)), mk s) := by
  obtain ⟨f1, f2⟩ := nF_0 hf
  have hA := tkA_le (T := T) he
  have hE := tkE_le (T := T) he
  obtain ⟨_, h2, h3, _, _⟩ := h
  have hk := h3.1
  have hn := c_number (N := N) hN1 hL hT h2 h3 hE.1 hE.2 f2 (tkD f1)
  have ht : fX10_isTooLong N 35 (mk s) = some (.inl 0, mk s) := by
    unfold fX10_isTooLong bX10_isTooLong_0
    rw [gI10 4 rfl, ob_s, gI10 1 rfl, ob_s, h3.2.2, h3.2.1, nI_sub hE.1, if_pos (show nI (tkE T L e - tkA T L e) ≤ (4 : Int32) from nI_le (b := 4) (by omega) (by omega)), rZ_0]
  rw [f1] at hk
  unfold fX2_lookAtNumber bX2_lookAtNumber_0 bX2_lookAtNumber_16 bX2_lookAtNumber_31
  rw [gR34, ob_s, gI10 0 rfl, ob_s, hk, if_pos (show nI 2 = (2 : Int32) from rfl), ob_s, cV10, ht, cS_l, if_pos rfl, gR34, ob_s, cV10, hn, cS_l]
  rfl
theorem c_look1 (he : e ≤ L) (h : CPs T L p s e k Q) (hL : L ≤ 700) (hf : ¬ nF T L e = 0) : ∃ s', fX2_lookAtNumber N 34 (mk s) = some (.inr 0, mk s') ∧ s'.1 34 1 = nI (nF T L e) ∧ s'.1 34 0 = nI (tkA T L e) ∧ Fr (cE p) s s' := by
  have hE := tkE_le (T := T) he
  have h4 := tkK_4 (T := T) (L := L) (e := e)
  have h3 := h.2.2.1
  unfold fX2_lookAtNumber bX2_lookAtNumber_0
  rw [gR34, ob_s, gI10 0 rfl, ob_s, h3.1]
  by_cases c : tkK T L e = 2
  · by_cases c2 : tkA T L e + 4 < tkE T L e
    · have ef : nF T L e = 2 := by unfold nF; rw [if_pos c, if_pos c2]
      have ht : fX10_isTooLong N 35 (mk s) = some (.inl 1, mk s) := by
        unfold fX10_isTooLong bX10_isTooLong_0
        rw [gI10 4 rfl, ob_s, gI10 1 rfl, ob_s, h3.2.2, h3.2.1, nI_sub hE.1, if_neg (show ¬ nI (tkE T L e - tkA T L e) ≤ (4 : Int32) from nI_ge (a := 4) (by omega) (by omega)), rZ_1]
      obtain ⟨s', b1, b2⟩ := c_ref (N := N) h (f := 2) (x := 2) rfl
      refine ⟨s', ?_, ef ▸ b2⟩
      unfold bX2_lookAtNumber_16
      rw [if_pos (show nI (tkK T L e) = (2 : Int32) by rw [c]; rfl), gR34, ob_s, cV10, ht, cS_l, if_neg (by decide), cV34, b1, cS_r]
    · exfalso
      apply hf
      unfold nF
      rw [if_pos c, if_neg c2]
  · have ef : nF T L e = 1 := by unfold nF; rw [if_neg c]
    obtain ⟨s', b1, b2⟩ := c_ref (N := N) h (f := 1) (x := 1) rfl
    refine ⟨s', ?_, ef ▸ b2⟩
    rw [if_neg (nI_ne (c := 2) (x := 2) rfl (by omega) (by omega) c), cV34, b1, cS_r]
theorem c_rn0 (hN1 : 1000 ≤ N) (hL : L ≤ 700) (hT : ∀ j, j < L → T j < 256) (hp : plA p) (he : e ≤ L) (h : CPs T L p s e k Q) {lo hi : Nat} {x y : Int32} (hx : x = nI lo) (hy : y = nI hi) (hi9 : hi < 10000) (hf : nG T L e lo hi = 0) : ∃ s', fX2_readsNumber N 34 x y (mk s) = some (.inl (nI (nV T L e)), mk s') ∧ CPs T L p s' (tkE T L e) k Q ∧ Fr (cE p) s s' := by
  obtain ⟨f1, f2, f3⟩ := nG_0 hf
  obtain ⟨s', b1, b2⟩ := CPs_adv (N := N) hN1 hL hT hp he h
  refine ⟨s', ?_, b2⟩
  unfold fX2_readsNumber bX2_readsNumber_0 bX2_readsNumber_20
  rw [cV34, c_look0 hN1 hL hT he h f1, cS_l, hx, hy, if_neg (nI_nlt f2 (by omega)), if_pos (nI_le f3 (by omega)), gR34, ob_s, cV10, b1, cS_l]
theorem c_rn1 (hN1 : 1000 ≤ N) (hL : L ≤ 700) (hT : ∀ j, j < L → T j < 256) (he : e ≤ L) (h : CPs T L p s e k Q) {lo hi : Nat} {x y : Int32} (hx : x = nI lo) (hy : y = nI hi) (hlo : lo < 10000) (hi9 : hi < 10000) (hf : ¬ nG T L e lo hi = 0) : ∃ s', fX2_readsNumber N 34 x y (mk s) = some (.inr 0, mk s') ∧ s'.1 34 1 = nI (nG T L e lo hi) ∧ s'.1 34 0 = nI (tkA T L e) ∧ Fr (cE p) s s' := by
  unfold fX2_readsNumber bX2_readsNumber_0
  by_cases c : nF T L e = 0
  · obtain ⟨f1, f2⟩ := nF_0 c
    have hv := nV_lt hT he f1 f2
    have eg : nG T L e lo hi = if nV T L e < lo ∨ hi < nV T L e then 2 else 0 := by unfold nG; rw [if_pos c]
    by_cases c2 : nV T L e < lo ∨ hi < nV T L e
    · rw [if_pos c2] at eg
      obtain ⟨s', b1, b2⟩ := c_ref (N := N) h (f := 2) (x := 2) rfl
      refine ⟨s', ?_, eg ▸ b2⟩
      unfold bX2_readsNumber_15
      rw [cV34, c_look0 hN1 hL hT he h c, cS_l, hx, hy]
      by_cases c3 : nV T L e < lo
      · rw [if_pos (nI_lt c3 (by omega)), cV34, b1, cS_r]
      · rw [if_neg (nI_nlt (by omega) (by omega)), if_neg (nI_ge (by omega) (by omega)), cV34, b1, cS_r]
    · rw [if_neg c2] at eg
      exact absurd eg hf
  · have eg : nG T L e lo hi = nF T L e := by unfold nG; rw [if_neg c]
    obtain ⟨s', b1, b2⟩ := c_look1 (N := N) he h hL c
    refine ⟨s', ?_, eg ▸ b2⟩
    rw [cV34, b1, cS_r]
theorem r_nn0 (hT : ∀ j, j < L → T j < 256) (hL : L ≤ 700) (he : e ≤ L) (h : RPs T L s e k Q) {lo hi : Nat} {x y : Int32} (hx : x = nI lo) (hy : y = nI hi) (hi9 : hi < 10000) (hf : nG T L e lo hi = 0) : fX12_numberNow N 419 x y (mk s) = some (.inl (nI (nV T L e)), mk s) := by
  obtain ⟨f0, f2, f3⟩ := nG_0 hf
  obtain ⟨g1, g2⟩ := nF_0 f0
  have hE := tkE_le (T := T) he
  obtain ⟨h1, h2, h3, h4, _, _⟩ := h
  have h20 := h3 g1
  rw [nmf_tk hT g1 g2] at h20
  have hk := h2.1
  rw [g1] at hk
  unfold fX12_numberNow bX12_numberNow_0 bX12_numberNow_59
  rw [gI12 23 rfl, ob_s, h4, if_pos rfl, gI12 19 rfl, ob_s, hk, if_pos (show nI 2 = (2 : Int32) from rfl), gI12 22 rfl, ob_s, gI12 21 rfl, ob_s, h2.2.2.1, h2.2.1, nI_sub hE.1, if_neg (show ¬ (4 : Int32) < nI (tkE T L e - tkA T L e) from nI_nlt (a := 4) (by omega) (by omega)), gI12 20 rfl, ob_s, h20, hx, if_neg (nI_nlt f2 (by omega)), ob_s, hy, if_pos (nI_le f3 (by omega)), ob_s, if_neg (fun z => z rfl), ob_s]
theorem r_nn1 (hT : ∀ j, j < L → T j < 256) (hL : L ≤ 700) (he : e ≤ L) (h : RPs T L s e k Q) {lo hi : Nat} {x y : Int32} (hx : x = nI lo) (hy : y = nI hi) (hlo : lo < 10000) (hi9 : hi < 10000) (hf : ¬ nG T L e lo hi = 0) : ∃ s', fX12_numberNow N 419 x y (mk s) = some (.inl 0, mk s') ∧ s'.1 419 23 = nI (nG T L e lo hi) ∧ s'.1 419 24 = nI (tkA T L e) ∧ Fr rE s s' := by
  have hE := tkE_le (T := T) he
  have h4' := tkK_4 (T := T) (L := L) (e := e)
  have hg2 := nG_2 T L e lo hi
  have end9 : ∀ (s' : sg), s'.1 419 23 = nI (nG T L e lo hi) → bX12_numberNow_59 N 419 (mk s') = some (.inl 0, mk s') := by
    intro s' w
    unfold bX12_numberNow_59
    rw [gI12 23 rfl, ob_s, w, if_pos (nI_b (by omega) (by omega))]
  obtain ⟨s1, w1, w2, w3⟩ := r_wr (N := N) h (f := 1) (x := 1) rfl
  obtain ⟨s2, v1, v2, v3⟩ := r_wr (N := N) h (f := 2) (x := 2) rfl
  obtain ⟨h1, h2, h3, h4, _, _⟩ := h
  unfold fX12_numberNow bX12_numberNow_0
  rw [gI12 23 rfl, ob_s, h4, if_pos rfl, gI12 19 rfl, ob_s, h2.1]
  by_cases c : tkK T L e = 2
  · have two : nG T L e lo hi = 2 → ∃ s', bX12_numberNow_54 N 419 (mk s) = some (.inl 0, mk s') ∧ s'.1 419 23 = nI (nG T L e lo hi) ∧ s'.1 419 24 = nI (tkA T L e) ∧ Fr rE s s' := by
      intro eg
      refine ⟨s2, ?_, eg ▸ v2, v3⟩
      unfold bX12_numberNow_54
      rw [cV12, v1, cS_l, end9 s2 (eg ▸ v2)]
    rw [if_pos (show nI (tkK T L e) = (2 : Int32) by rw [c]; rfl), gI12 22 rfl, ob_s, gI12 21 rfl, ob_s, h2.2.2.1, h2.2.1, nI_sub hE.1]
    by_cases c2 : tkA T L e + 4 < tkE T L e
    · have ef : nF T L e = 2 := by unfold nF; rw [if_pos c, if_pos c2]
      rw [if_pos (show (4 : Int32) < nI (tkE T L e - tkA T L e) from nI_lt (a := 4) (by omega) (by omega))]
      exact two (by unfold nG; rw [ef]; rfl)
    · have ef : nF T L e = 0 := by unfold nF; rw [if_pos c, if_neg c2]
      have hv := nV_lt hT he c (by omega)
      have h20 := h3 c
      rw [nmf_tk hT c (by omega)] at h20
      have eg : nG T L e lo hi = if nV T L e < lo ∨ hi < nV T L e then 2 else 0 := by unfold nG; rw [if_pos ef]
      rw [if_neg (show ¬ (4 : Int32) < nI (tkE T L e - tkA T L e) from nI_nlt (a := 4) (by omega) (by omega)), gI12 20 rfl, ob_s, h20, ob_s, hx, hy]
      by_cases c3 : nV T L e < lo
      · rw [if_pos (nI_lt c3 (by omega))]
        exact two (by rw [eg, if_pos (Or.inl c3)])
      · rw [if_neg (nI_nlt (by omega) (by omega))]
        by_cases c4 : hi < nV T L e
        · rw [if_neg (nI_ge c4 (by omega))]
          exact two (by rw [eg, if_pos (Or.inr c4)])
        · exact absurd (by rw [eg, if_neg (by omega)]) hf
  · have ef : nF T L e = 1 := by unfold nF; rw [if_neg c]
    have eg : nG T L e lo hi = 1 := by unfold nG; rw [ef]; rfl
    refine ⟨s1, ?_, eg ▸ w2, w3⟩
    rw [if_neg (nI_ne (c := 2) (x := 2) rfl (by omega) (by omega) c), cV12, w1, cS_l, end9 s1 (eg ▸ w2)]
theorem r_rn0 (hN1 : 1000 ≤ N) (hL : L ≤ 700) (hT : ∀ j, j < L → T j < 256) (he : e ≤ L) (h : RPs T L s e k Q) {lo hi : Nat} {x y : Int32} (hx : x = nI lo) (hy : y = nI hi) (hi9 : hi < 10000) (hf : nG T L e lo hi = 0) : ∃ s', fX12_readNumber N 419 x y (mk s) = some (.inl (nI (nV T L e)), mk s') ∧ RPs T L s' (tkE T L e) k Q ∧ Fr rE s s' := by
  obtain ⟨s', b1, b2⟩ := RPs_step (N := N) hN1 hL hT he h
  refine ⟨s', ?_, b2⟩
  unfold fX12_readNumber bX12_readNumber_0 bX12_readNumber_18
  rw [cV12, r_nn0 hT hL he h hx hy hi9 hf, cS_l, gI12 23 rfl, ob_s, h.2.2.2.1, if_neg (fun z => z rfl), cV12, b1, cS_l]
theorem r_rn1 (hL : L ≤ 700) (hT : ∀ j, j < L → T j < 256) (he : e ≤ L) (h : RPs T L s e k Q) {lo hi : Nat} {x y : Int32} (hx : x = nI lo) (hy : y = nI hi) (hlo : lo < 10000) (hi9 : hi < 10000) (hf : ¬ nG T L e lo hi = 0) : ∃ s', fX12_readNumber N 419 x y (mk s) = some (.inl 0, mk s') ∧ s'.1 419 23 = nI (nG T L e lo hi) ∧ s'.1 419 24 = nI (tkA T L e) ∧ Fr rE s s' := by
  have hg2 := nG_2 T L e lo hi
  obtain ⟨s', b1, b2, b3⟩ := r_nn1 (N := N) hT hL he h hx hy hlo hi9 hf
  refine ⟨s', ?_, b2, b3⟩
  unfold fX12_readNumber bX12_readNumber_0 bX12_readNumber_18
  rw [cV12, b1, cS_l, gI12 23 rfl, ob_s, b2, if_pos (nI_b (by omega) (by omega))]
/-! nothing is read any more once there is a fault -/
theorem rb_nn {x y : Int32} (hb : ¬ s.1 419 23 = 0) : fX12_numberNow N 419 x y (mk s) = some (.inl 0, mk s) := by
  unfold fX12_numberNow bX12_numberNow_0
  rw [gI12 23 rfl, ob_s, if_neg hb]
theorem rb_rn {x y : Int32} (hb : ¬ s.1 419 23 = 0) : fX12_readNumber N 419 x y (mk s) = some (.inl 0, mk s) := by
  unfold fX12_readNumber bX12_readNumber_0 bX12_readNumber_18
  rw [cV12, rb_nn hb, cS_l, gI12 23 rfl, ob_s, if_pos hb]
theorem rb_lay {g : Int32} (hb : ¬ s.1 419 23 = 0) : fX12_lay N 419 g (mk s) = some (.inl (), mk s) := by
  unfold fX12_lay bX12_lay_0
  rw [gI12 23 rfl, ob_s, if_neg hb]
theorem rb_mark {x : Int32} (hb : ¬ s.1 419 23 = 0) : fX12_mark N 419 x (mk s) = some (.inl (), mk s) := by
  unfold fX12_mark bX12_mark_0 bX12_mark_20
  rw [gI12 23 rfl, ob_s, if_pos hb, ob_s, if_pos hb]
theorem rb_wr {x : Int32} (hb : ¬ s.1 419 23 = 0) : fX12_wrong N 419 x (mk s) = some (.inl (), mk s) := by
  unfold fX12_wrong bX12_wrong_0
  rw [gI12 23 rfl, ob_s, if_neg hb]
/-! a sign that must stand there -/
def isS (T : Nat → Nat) (L e c : Nat) : Bool := decide (tkK T L e = 3 ∧ T (tkA T L e) = c)
def isW (T : Nat → Nat) (L e : Nat) (w : List Nat) : Bool := decide (tkK T L e = 1 ∧ tW T L e = w)
theorem c_sgn {c : Nat} {x : Int32} (hL : L ≤ 700) (hT : ∀ j, j < L → T j < 256) (h : CPs T L p s e k Q) (hx : x = nI c) (hc : c < 128) : fX10_isSign N 35 x (mk s) = some (.inl (sk_i (isS T L e c)), mk s) :=
  c_isSign hx hc hL hT h.2.1 h.2.2.1 tkK_4 (fun w => tkK_A (by omega))
theorem r_sgn {c : Nat} {x : Int32} (hL : L ≤ 700) (hT : ∀ j, j < L → T j < 256) (h : RPs T L s e k Q) (hx : x = nI c) (hc : c < 128) : fX12_isMarked N 419 x (mk s) = some (.inl (sk_i (isS T L e c)), mk s) :=
  r_isMd hx hc hL hT h.1 h.2.1 tkK_4 (fun w => tkK_A (by omega)) h.2.2.2.1
theorem c_wrd {o n : Nat} (hN1 : 1000 ≤ N) (hw : okW o n) (hL : L ≤ 700) (hT : ∀ j, j < L → T j < 256) (he : e ≤ L) (h : CPs T L p s e k Q) : fX10_isWord N 35 (1000000 + o) (mk s) = some (.inl (sk_i (isW T L e (sw o n 0))), mk s) :=
  c_isWord hN1 hw hL hT h.2.1 h.2.2.1 tkK_4 (tkE_le he).1 (tkE_le he).2
theorem r_wrd {o n : Nat} (hN1 : 1000 ≤ N) (hw : okW o n) (hL : L ≤ 700) (hT : ∀ j, j < L → T j < 256) (he : e ≤ L) (h : RPs T L s e k Q) : fX12_is N 419 (1000000 + o) (mk s) = some (.inl (sk_i (isW T L e (sw o n 0))), mk s) :=
  r_is hN1 hw hL hT h.1 h.2.1 tkK_4 (tkE_le he).1 (tkE_le he).2 h.2.2.2.1
theorem r_mk0 {c : Nat} {x : Int32} (hN1 : 1000 ≤ N) (hL : L ≤ 700) (hT : ∀ j, j < L → T j < 256) (he : e ≤ L) (h : RPs T L s e k Q) (hx : x = nI c) (hc : c < 128) (hs : isS T L e c = true) : ∃ s', fX12_mark N 419 x (mk s) = some (.inl (), mk s') ∧ RPs T L s' (tkE T L e) k Q ∧ Fr rE s s' := by
  obtain ⟨s', b1, b2⟩ := RPs_step (N := N) hN1 hL hT he h
  refine ⟨s', ?_, b2⟩
  unfold fX12_mark bX12_mark_0 bX12_mark_20
  rw [gI12 23 rfl, ob_s, h.2.2.2.1, if_neg (fun z => z rfl), cV12, r_sgn hL hT h hx hc, cS_l, hs, if_pos (by decide), gI12 23 rfl, ob_s, h.2.2.2.1, if_neg (fun z => z rfl), cV12, b1, cS_l]
theorem r_mk1 {c : Nat} {x : Int32} (hL : L ≤ 700) (hT : ∀ j, j < L → T j < 256) (h : RPs T L s e k Q) (hx : x = nI c) (hc : c < 128) (hs : isS T L e c = false) : ∃ s', fX12_mark N 419 x (mk s) = some (.inl (), mk s') ∧ s'.1 419 23 = nI 1 ∧ s'.1 419 24 = nI (tkA T L e) ∧ Fr rE s s' := by
  obtain ⟨s', b1, b2, b3⟩ := r_wr (N := N) h (f := 1) (x := 1) rfl
  refine ⟨s', ?_, b2, b3⟩
  unfold fX12_mark bX12_mark_0 bX12_mark_20
  rw [gI12 23 rfl, ob_s, h.2.2.2.1, if_neg (fun z => z rfl), cV12, r_sgn hL hT h hx hc, cS_l, hs, if_neg (by decide), cV12, b1, cS_l, gI12 23 rfl, ob_s, b2, if_pos (nI_b (by omega) (by omega))]
end PS
