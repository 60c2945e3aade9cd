/- needs: 80.text -/
/-! plan, the first object's -/
section CPN
variable {N : Nat} {T : Nat → Nat} {p : Nat} {s : sg}
theorem pZ34 (j : Nat) (h : fI 2 j = true) : pZ (mk s) 34 2 j 0 = some (mk (sI s 34 j 0)) := pZ_k ⟨rfl, h, by decide⟩ (Or.inl rfl)
theorem c_reads {tl n : Nat} (hN1 : 1000 ≤ N) (htl : tl ≤ 700) (hn : n ≤ tl) (hT : ∀ j, j < tl → T j < 256) (hp : plA p) (h : ∀ j, j < tl → s.1 1 j = cby (T j)) : ∃ s3, CX T n p s3 0 pX0 ∧ Fr (fun x _ => (p ≤ x ∧ x ≤ p + 15) ∨ (34 ≤ x ∧ x ≤ 36)) s s3 ∧ fX2_reads N 34 1 (nI n) p (mk s) = (match lX2_readsLines_2 N N 34 (nI 0) (mk s3) with | none => none | some (.inl _, c) => some (.inl (0 : Int32), c) | some (.inr e14, c) => if e14 = 0 then (Option.bind (gI c 34 2 1) fun x15 => some (.inl x15, c)) else none) := by
  have hp' : p = 2 ∨ p = 18 := hp
  have kp := (plK hp).1
  have f0 : Fr (fun x _ => (p ≤ x ∧ x ≤ p + 15) ∨ (34 ≤ x ∧ x ≤ 36)) s (sR s 34 3 p) := Fr_sR (by omega)
  have r0 : (sR s 34 3 p).2.1 34 3 = p := by rw [sR_2, if_pos ⟨rfl, rfl⟩]
  obtain ⟨s1, b1, b2, b3⟩ := c_clears (N := N) (s := sR s 34 3 p) hN1 hp
  obtain ⟨c0, c1, c2, c3, c4, c5, c6, c7, c8⟩ := b2
  generalize hs2 : sI (sI (sI (sI (sI s1 34 4 0) 34 5 0) 34 6 0) 34 1 0) 34 0 (-1) = s2
  have f2 : Fr (fun x j => x = 34 ∧ ¬ j = 3) s1 s2 := by
    rw [← hs2]
    exact Fr_t (Fr_t (Fr_t (Fr_t (Fr_sI (by omega)) (Fr_sI (by omega))) (Fr_sI (by omega))) (Fr_sI (by omega))) (Fr_sI (by omega))
  have fl : ∀ j, j < 3 → s2.1 34 (4 + j) = 0 := fun j hj => by
    rw [← hs2]
    simp only [sI_1]
    rw [if_neg (by omega), if_neg (by omega)]
    obtain rfl | rfl | rfl : j = 0 ∨ j = 1 ∨ j = 2 := by omega
    · simp
    · simp
    · simp
  obtain ⟨s3, d1, d2, d3, d4⟩ := c_beginsT (N := N) (s := s2) (T := T) (n := n) (tl := tl) hN1 htl hn hT (fun j hj => by rw [f2.1 _ _ (by omega), b3.1 _ _ (by omega), sR_1]; exact h j hj)
  have g : ∀ x j, ¬ (34 ≤ x ∧ x ≤ 36) → s3.1 x j = s1.1 x j := fun x j q => by rw [d4.1 _ _ (by omega), f2.1 _ _ (by omega)]
  refine ⟨s3, ⟨⟨?_, d2, d3, (g _ _ (by omega)).trans c7, fun j hj => absurd hj (Nat.not_lt_zero _)⟩, (g _ _ (by omega)).trans c0, (g _ _ (by omega)).trans c1, (g _ _ (by omega)).trans c2, (g _ _ (by omega)).trans c3, (g _ _ (by omega)).trans c4, (g _ _ (by omega)).trans c5, (g _ _ (by omega)).trans c6, fun j hj => ?_, fun k hk => absurd hk (Nat.not_lt_zero _), ?_, fun i hi => absurd hi (Nat.not_lt_zero _)⟩, ?_, ?_⟩
  · rw [d4.2.1 _ _ (by omega), f2.2.1 _ _ (by omega), b3.2.1 _ _ (by omega)]; exact r0
  · rw [d4.1 _ _ (by omega), fl j hj]
    show 0 = nI (if 8 + j = 1 then 240 else if 8 + j = 2 then 50 else if 8 + j = 3 then 1 else 0)
    rw [if_neg (by omega), if_neg (by omega), if_neg (by omega)]
    rfl
  · have k1 : kSky s2 (p + 2) (fun _ => false) := kSky_fr c8 f2 (fun j => by omega)
    exact kSky_fr k1 d4 (fun j => by omega)
  · exact Fr_t f0 (Fr_t (Fr_m b3 (by intro x j q; omega)) (Fr_t (Fr_m f2 (by intro x j q; omega)) (Fr_m d4 (by intro x j q; omega))))
  · unfold fX2_reads bX2_reads_0
    rw [pR_k (a := 34) (ci := 2) ⟨rfl, rfl, by decide, rfl⟩, ob_s, gR34p, ob_s, r0, cV_k ⟨kp, by decide⟩, b1, cS_l, pZ34 4 rfl, ob_s, pZ34 5 rfl, ob_s, pZ34 6 rfl, ob_s, pI34 1 rfl, ob_s, pI34 0 rfl, ob_s, hs2, gR34, ob_s, cV10, d1, cS_l, cX_mk (a := 34) (ci := 2) rfl (by decide), show fX2_readsLines N 34 (mk s3) = lX2_readsLines_2 N N 34 (nI 0) (mk s3) from rfl]
    cases lX2_readsLines_2 N N 34 (nI 0) (mk s3) with
    | none => rfl
    | some r =>
      obtain ⟨r1, c⟩ := r
      cases r1 <;> rfl
/-- the state of the scene begins anew -/
theorem c_st37 {K : Nat → Bool} (hp : plA p) (hK : kSky s (p + 2) K) : ∀ (f i : Nat) (s : sg), 8 - i < f → i ≤ 8 → (∀ j, j < i → s.1 39 j = 0) → kSky s (p + 2) K → ∃ s', lX9_begins_37 N f 38 (p + 2) (nI i) (mk s) = some (.inl (), mk s') ∧ (∀ j, j < 8 → s'.1 39 j = 0) ∧ kSky s' 40 K ∧ Fr (fun x _ => x = 39 ∨ x = 41) s s' := by
  have hp' : p = 2 ∨ p = 18 := hp
  intro f
  induction f with
  | zero => intro i s h; omega
  | succ f ih =>
    intro i s hf hi hz hk
    show ∃ s', bX9_begins_37 N (lX9_begins_37 N f) 38 (p + 2) (nI i) (mk s) = _ ∧ _
    unfold bX9_begins_37
    by_cases c : 8 ≤ i
    · have g8 : gR (mk s) 38 9 8 = some 40 := gR_k ⟨rfl, rfl, by decide⟩
      have cp := c_skCopy (N := N) (s := s) (q := 40) (r := p + 2) ⟨rfl, rfl, rfl⟩ (skP hp) hk
      refine ⟨sA s 41 (va_cpy (s.1 (p + 2 + 1)) (s.1 41) 0 0 15), ?_, fun j hj => by rw [sA_1, if_neg (by omega)]; exact hz j (by omega), kSky_cp hk, Fr_sA (fun j => Or.inr rfl)⟩
      rw [if_pos (show (8 : Int32) ≤ nI i from nI_le (a := 8) c (by omega))]
      unfold bX9_begins_56
      rw [g8, ob_s, cV_k (a := 40) (ci := 8) ⟨rfl, by decide⟩, cp, cS_l]
    · have g7 : gR (mk s) 38 9 7 = some 39 := gR_k ⟨rfl, rfl, by decide⟩
      rw [if_neg (show ¬ (8 : Int32) ≤ nI i from nI_ge (b := 8) (by omega) (by omega)), g7, ob_s, tI_k (a := 39) ⟨rfl, inA_nI (show i < 8 by omega) (by omega)⟩, ob_s, nI_clamp (by omega), nI_1]
      have f1 : Fr (fun x _ => x = 39 ∨ x = 41) s (sI s 39 i 0) := Fr_sI (Or.inl rfl)
      obtain ⟨s', b1, b2, b3, b4⟩ := ih (i + 1) (sI s 39 i 0) (by omega) (by omega) (fun j hj => by
        rw [sI_1]
        by_cases c2 : j = i
        · rw [if_pos ⟨rfl, c2⟩]
        · rw [if_neg (fun z => c2 z.2)]; exact hz j (by omega)) (kSky_fr hk f1 (fun j => by omega))
      exact ⟨s', b1, b2, b3, Fr_t f1 b4⟩
def sc0 (x j : Nat) : Prop := (38 ≤ x ∧ x ≤ 41) ∨ (x = 37 ∧ (j = 2 ∨ j = 6))
theorem c_scBegins {K : Nat → Bool} (hN1 : 1000 ≤ N) (hp : plA p) (hK : kSky s (p + 2) K) : ∃ s', fX5_begins N 37 p (mk s) = some (.inl (), mk s') ∧ SAt s' 38 (fun _ => 0) K ∧ s'.1 37 2 = nI 0 ∧ s'.1 37 6 = nI 0 ∧ Fr sc0 s s' := by
  have hp' : p = 2 ∨ p = 18 := hp
  have kp := (plK hp).1
  have g7 : gR (mk s) p 3 7 = some (p + 2) := gR_k ⟨kp, rfl, by decide⟩
  have g0 : gR (mk s) 37 5 0 = some 38 := gR_k ⟨rfl, rfl, by decide⟩
  have q : ∀ (s : sg) j x, fI 9 j = true → pI (mk s) 38 9 j x = some (mk (sI s 38 j x)) := fun s j x h => pI_k ⟨rfl, h, by decide⟩
  have qz : ∀ (s : sg) j, fI 9 j = true → pZ (mk s) 38 9 j 0 = some (mk (sI s 38 j 0)) := fun s j h => pZ_k ⟨rfl, h, by decide⟩ (Or.inl rfl)
  have q5 : ∀ (s : sg) j x, fI 5 j = true → pI (mk s) 37 5 j x = some (mk (sI s 37 j x)) := fun s j x h => pI_k ⟨rfl, h, by decide⟩
  generalize hs1 : sI (sI (sI (sI (sI (sI (sI s 38 0 0) 38 1 0) 38 2 0) 38 3 0) 38 4 0) 38 5 0) 38 6 0 = s1
  have f1 : Fr (fun x _ => x = 38) s s1 := by
    rw [← hs1]
    exact Fr_t (Fr_t (Fr_t (Fr_t (Fr_t (Fr_t (Fr_sI rfl) (Fr_sI rfl)) (Fr_sI rfl)) (Fr_sI rfl)) (Fr_sI rfl)) (Fr_sI rfl)) (Fr_sI rfl)
  have z : ∀ j, j < 7 → s1.1 38 j = 0 := fun j hj => by
    rw [← hs1]
    simp only [sI_1]
    obtain rfl | rfl | rfl | rfl | rfl | rfl | rfl : j = 0 ∨ j = 1 ∨ j = 2 ∨ j = 3 ∨ j = 4 ∨ j = 5 ∨ j = 6 := by omega
    all_goals simp
  have hK1 : kSky s1 (p + 2) K := kSky_fr hK f1 (fun j => by omega)
  obtain ⟨s2, b1, b2, b3, b4⟩ := c_st37 (N := N) hp hK1 N 0 s1 (by omega) (by omega) (fun j hj => absurd hj (Nat.not_lt_zero _)) hK1
  have f3 : Fr (fun x j => x = 37 ∧ (j = 2 ∨ j = 6)) s2 (sI (sI s2 37 2 0) 37 6 0) := Fr_t (Fr_sI (by omega)) (Fr_sI (by omega))
  have v : ∀ j, j < 7 → (sI (sI s2 37 2 0) 37 6 0).1 38 j = 0 := fun j hj => by rw [f3.1 _ _ (by omega), b4.1 _ _ (by omega)]; exact z j hj
  refine ⟨sI (sI s2 37 2 0) 37 6 0, ?_, ⟨v 0 (by omega), v 1 (by omega), v 2 (by omega), v 4 (by omega), v 3 (by omega), v 5 (by omega), v 6 (by omega), fun j hj => (f3.1 _ _ (by omega)).trans (b2 j hj), kSky_fr b3 f3 (fun j => by omega)⟩, ?_, sI_at _ _ _ _, Fr_t (Fr_m f1 (by intro x j q; unfold sc0; omega)) (Fr_t (Fr_m b4 (by intro x j q; unfold sc0; omega)) (Fr_m f3 (by intro x j q; unfold sc0; omega)))⟩
  · unfold fX5_begins bX5_begins_0 fX9_begins bX9_begins_0
    rw [g0, ob_s, g7, ob_s, cV_k (a := 38) (ci := 9) ⟨rfl, by decide⟩, q _ 0 _ rfl, ob_s, q _ 1 _ rfl, ob_s, q _ 2 _ rfl, ob_s, q _ 3 _ rfl, ob_s, q _ 4 _ rfl, ob_s, qz _ 5 rfl, ob_s, qz _ 6 rfl, ob_s, hs1]
    have b1' : lX9_begins_37 N N 38 (p + 2) (0 : Int32) (mk s1) = some (.inl (), mk s2) := b1
    rw [b1', cS_l, q5 _ 2 _ rfl, ob_s, q5 _ 6 _ rfl, ob_s]
  · rw [sI_1, if_neg (by omega), sI_at]; rfl
theorem gI11 (j : Nat) (h : fI 11 j = true) : gI (mk s) 0 11 j = some (s.1 0 j) := gI_k ⟨rfl, h, by decide⟩
theorem pI11 (j : Nat) (h : fI 11 j = true) {x : Int32} : pI (mk s) 0 11 j x = some (mk (sI s 0 j x)) := pI_k ⟨rfl, h, by decide⟩
theorem gR11_3 : gR (mk s) 0 11 3 = some (s.2.1 0 3) := gR_k ⟨rfl, rfl, by decide⟩
theorem gR11_4 : gR (mk s) 0 11 4 = some (s.2.1 0 4) := gR_k ⟨rfl, rfl, by decide⟩
theorem gR11_0 : gR (mk s) 0 11 0 = some 1 := gR_k ⟨rfl, rfl, by decide⟩
theorem gR11_5 : gR (mk s) 0 11 5 = some 34 := gR_k ⟨rfl, rfl, by decide⟩
theorem gR11_6 : gR (mk s) 0 11 6 = some 37 := gR_k ⟨rfl, rfl, by decide⟩
theorem pR11 (j x : Nat) (h : fR 11 j = true) (hi : imK 11 0 j = none) : pR (mk s) 0 11 j x = some (mk (sR s 0 j x)) := pR_k ⟨rfl, h, by decide, hi⟩
def cPf (p x j : Nat) : Prop := (p ≤ x ∧ x ≤ p + 15) ∨ (34 ≤ x ∧ x ≤ 36) ∨ (x = 0 ∧ (j = 1 ∨ j = 2)) ∨ (x = 46 ∧ j = 0)
def cPg (p x j : Nat) : Prop := (p ≤ x ∧ x ≤ p + 15) ∨ (34 ≤ x ∧ x ≤ 36) ∨ (x = 0 ∧ (j = 1 ∨ j = 2 ∨ j = 3 ∨ j = 4 ∨ j = 8)) ∨ sc0 x j
theorem c_planF {tl n f e1 : Nat} {G K : mm_C → mR Int32} (hN1 : 1000 ≤ N) (htl : tl ≤ 700) (hn : n ≤ tl) (hT : ∀ j, j < tl → T j < 256) (hp : plA p) (h4 : s.2.1 0 4 = p) (h : TpC s tl T) (ho : Ls T n p (lX2_readsLines_2 N N 34 (nI 0)) G K 0 pX0 (.inl (f, e1))) : ∃ s', fX11_plan N 0 (nI n) (mk s) = some (.inl (nI f), mk s') ∧ s'.1 0 1 = nI 0 ∧ s'.1 0 2 = nI (tkA T n e1) ∧ s'.1 46 0 = s.1 46 0 + 1 ∧ Fr (cPf p) s s' := by
  have hp' : p = 2 ∨ p = 18 := hp
  obtain ⟨s3, a1, a2, a3⟩ := c_reads (N := N) (s := s) hN1 htl hn hT hp h.2
  obtain ⟨h0, h1, _⟩ := ho
  obtain ⟨s4, b1, b2, b3, b4⟩ := h1 s3 a1
  have e5 : fX2_reads N 34 1 (nI n) p (mk s) = some (.inl (nI f), mk s4) := by
    rw [a3, b1]
    show (if (0 : Nat) = 0 then (Option.bind (gI (mk s4) 34 2 1) fun x15 => some (Sum.inl x15, mk s4)) else none) = _
    rw [if_pos rfl, gI34 1 rfl, ob_s, b2]
  have g7 : ∀ s : sg, gR (mk s) 37 5 7 = some 46 := fun s => gR_k ⟨rfl, rfl, by decide⟩
  have a46 : ∀ s : sg, aI (mk s) 46 (0 : Int32) = some (s.1 46 0) := fun s => aI_k (i := 0) ⟨rfl, by decide⟩
  have t46 : ∀ (s : sg) x, tI (mk s) 46 (0 : Int32) x = some (mk (sI s 46 0 x)) := fun s x => tI_k (i := 0) ⟨rfl, by decide⟩
  have k0 : (sI s4 0 1 0).1 34 0 = nI (tkA T n e1) := by rw [sI_1, if_neg (by omega)]; exact b3
  have f4 : Fr (cPf p) s s4 := Fr_t (Fr_m a2 (by intro x j q; unfold cPf; omega)) (Fr_m b4 (by intro x j q; unfold cF at q; unfold cPf; omega))
  have k46 : s4.1 46 0 = s.1 46 0 := (b4.1 _ _ (by unfold cF; omega)).trans (a2.1 _ _ (by omega))
  refine ⟨sI (sI (sI s4 0 1 0) 0 2 (nI (tkA T n e1))) 46 0 (s4.1 46 0 + 1), ?_, ?_, ?_, ?_, Fr_t f4 (Fr_t (Fr_t (Fr_sI (by unfold cPf; omega)) (Fr_sI (by unfold cPf; omega))) (Fr_sI (by unfold cPf; omega)))⟩
  · have k46' : (sI (sI s4 0 1 0) 0 2 (nI (tkA T n e1))).1 46 0 = s4.1 46 0 := by rw [sI_1, if_neg (by omega), sI_1, if_neg (by omega)]
    unfold fX11_plan bX11_plan_0
    rw [if_neg (show ¬ nI n < 0 from nI_nlt (b := 0) (Nat.zero_le _) (by omega)), gI11 1 rfl, ob_s, h.1, if_pos (nI_le hn (by omega)), gR11_5, ob_s, gR11_0, ob_s, gR11_4, ob_s, h4, cV34, e5, cS_l, pI11 1 rfl, ob_s, if_neg (nI_b h0.1 h0.2.1), gR11_5, ob_s, gI34 0 rfl, ob_s, k0, pI11 2 rfl, ob_s, gR11_6, ob_s, g7, ob_s, a46, ob_s, k46', t46, ob_s]
  · rw [sI_1, if_neg (by omega), sI_1, if_neg (by omega), sI_at]; rfl
  · rw [sI_1, if_neg (by omega), sI_at]
  · rw [sI_at, k46]
theorem c_planG {tl n e1 : Nat} {X1 : pX} {G K : mm_C → mR Int32} (hN1 : 1000 ≤ N) (htl : tl ≤ 700) (hn : n ≤ tl) (hT : ∀ j, j < tl → T j < 256) (hp : plA p) (h4 : s.2.1 0 4 = p) (h : TpC s tl T) (ho : Ls T n p (lX2_readsLines_2 N N 34 (nI 0)) G K 0 pX0 (.inr (e1, X1))) : ∃ s', fX11_plan N 0 (nI n) (mk s) = some (.inl 0, mk s') ∧ s'.1 0 1 = nI 0 ∧ s'.1 0 2 = -1 ∧ s'.1 0 8 = 0 ∧ s'.2.1 0 3 = p ∧ s'.2.1 0 4 = s.2.1 0 3 ∧ CL s' p X1 ∧ (∀ j, j < X1.1 6 → s'.1 (p + 5) j = trc (X1.2.2.2.2 j)) ∧ SAt s' 38 (fun _ => 0) X1.2.2.1 ∧ s'.1 37 2 = nI 0 ∧ s'.1 37 6 = nI 0 ∧ Fr (cPg p) s s' := by
  have hp' : p = 2 ∨ p = 18 := hp
  obtain ⟨s3, a1, a2, a3⟩ := c_reads (N := N) (s := s) hN1 htl hn hT hp h.2
  obtain ⟨h0, h1, _⟩ := ho
  obtain ⟨s4, b1, b2, b4⟩ := h1 s3 a1
  have e5 : fX2_reads N 34 1 (nI n) p (mk s) = some (.inl 0, mk s4) := by
    rw [a3, b1]
  have r3 : s4.2.1 0 3 = s.2.1 0 3 := (b4.2.1 _ _ (by unfold cF; omega)).trans (a2.2.1 _ _ (by omega))
  have r4 : s4.2.1 0 4 = p := ((b4.2.1 _ _ (by unfold cF; omega)).trans (a2.2.1 _ _ (by omega))).trans h4
  have f4 : Fr (cPg p) s s4 := Fr_t (Fr_m a2 (by intro x j q; unfold cPg sc0; omega)) (Fr_m b4 (by intro x j q; unfold cF at q; unfold cPg sc0; omega))
  generalize hs5 : sI (sI (sR (sR (sI s4 0 1 0) 0 4 (s.2.1 0 3)) 0 3 p) 0 2 (-1)) 0 8 0 = s5
  have f5 : Fr (fun x j => x = 0 ∧ (j = 1 ∨ j = 2 ∨ j = 3 ∨ j = 4 ∨ j = 8)) s4 s5 := by
    rw [← hs5]
    exact Fr_t (Fr_t (Fr_t (Fr_t (Fr_sI (by omega)) (Fr_sR (by omega))) (Fr_sR (by omega))) (Fr_sI (by omega))) (Fr_sI (by omega))
  have u3 : s5.2.1 0 3 = p := by
    rw [← hs5]
    show (sR (sR (sI s4 0 1 0) 0 4 (s.2.1 0 3)) 0 3 p).2.1 0 3 = p
    rw [sR_2, if_pos ⟨rfl, rfl⟩]
  have u4 : s5.2.1 0 4 = s.2.1 0 3 := by
    rw [← hs5]
    show (sR (sR (sI s4 0 1 0) 0 4 (s.2.1 0 3)) 0 3 p).2.1 0 4 = _
    rw [sR_2, if_neg (by omega), sR_2, if_pos ⟨rfl, rfl⟩]
  have v1 : s5.1 0 1 = nI 0 := by
    rw [← hs5, sI_1, if_neg (by omega), sI_1, if_neg (by omega), sR_1, sR_1, sI_at]; rfl
  have v2 : s5.1 0 2 = -1 := by rw [← hs5, sI_1, if_neg (by omega), sI_at]
  have v8 : s5.1 0 8 = 0 := by rw [← hs5, sI_at]
  have hK5 : kSky s5 (p + 2) X1.2.2.1 := kSky_fr b2.2.2.2.2.2.2.2.2.2.2.1 f5 (fun j => by omega)
  obtain ⟨s6, d1, d2, d3, d4, d5⟩ := c_scBegins (N := N) (s := s5) hN1 hp hK5
  have f6 : Fr (fun x j => (x = 0 ∧ (j = 1 ∨ j = 2 ∨ j = 3 ∨ j = 4 ∨ j = 8)) ∨ sc0 x j) s4 s6 := Fr_t (Fr_m f5 (fun x j q => Or.inl q)) (Fr_m d5 (fun x j q => Or.inr q))
  refine ⟨s6, ?_, (d5.1 _ _ (by unfold sc0; omega)).trans v1, (d5.1 _ _ (by unfold sc0; omega)).trans v2, (d5.1 _ _ (by unfold sc0; omega)).trans v8, (d5.2.1 _ _ (by unfold sc0; omega)).trans u3, (d5.2.1 _ _ (by unfold sc0; omega)).trans u4, ?_, fun j hj => (f6.1 _ _ (by unfold sc0; omega)).trans (b2.1.2.2.2.2 j hj), d2, d3, d4, Fr_t f4 (Fr_m f6 (fun x j q => q.elim (fun q => Or.inr (Or.inr (Or.inl q))) (fun q => Or.inr (Or.inr (Or.inr q)))))⟩
  · have w3 : (sI s4 0 1 0).2.1 0 3 = s.2.1 0 3 := r3
    have w4 : (sI s4 0 1 0).2.1 0 4 = p := r4
    have z8 : ∀ s : sg, pZ (mk s) 0 11 8 0 = some (mk (sI s 0 8 0)) := fun s => pZ_k ⟨rfl, rfl, by decide⟩ (Or.inl rfl)
    unfold fX11_plan bX11_plan_0
    rw [if_neg (show ¬ nI n < 0 from nI_nlt (b := 0) (Nat.zero_le _) (by omega)), gI11 1 rfl, ob_s, h.1, if_pos (nI_le hn (by omega)), gR11_5, ob_s, gR11_0, ob_s, gR11_4, ob_s, h4, cV34, e5, cS_l, pI11 1 rfl, ob_s, if_pos rfl, gR11_4, ob_s, w4, gR11_3, ob_s, w3, pR11 4 _ rfl rfl, ob_s, pR11 3 _ rfl rfl, ob_s, pI11 2 rfl, ob_s, z8, ob_s, hs5, gR11_6, ob_s, gR11_3, ob_s, u3, cV_k (a := 37) (ci := 5) ⟨rfl, by decide⟩, d1, cS_l]
  · obtain ⟨l1, l2, l3, l4, l5, l6, l7, l8, l9, l10, l11⟩ := b2.2
    have w0 := h0.2.1
    exact ⟨(f6.1 _ _ (by unfold sc0; omega)).trans l1, (f6.1 _ _ (by unfold sc0; omega)).trans l2, (f6.1 _ _ (by unfold sc0; omega)).trans l3, (f6.1 _ _ (by unfold sc0; omega)).trans l4, (f6.1 _ _ (by unfold sc0; omega)).trans l5, (f6.1 _ _ (by unfold sc0; omega)).trans l6, (f6.1 _ _ (by unfold sc0; omega)).trans l7, fun j hj => (f6.1 _ _ (by unfold sc0; omega)).trans (l8 j hj), fun k hk => ShAt_o (l9 k hk) f6 (fun j => by unfold sc0; omega), kSky_fr l10 f6 (fun j => by unfold sc0; omega), fun i hi => (f6.1 _ _ (by unfold sc0; omega)).trans (l11 i hi)⟩
theorem c_planX {x : Int32} {tl : Nat} (htl : tl ≤ 700) (h : TpC s tl T) (hx : x < 0 ∨ nI tl < x) : fX11_plan N 0 x (mk s) = some (.inr 0, mk s) := by
  unfold fX11_plan bX11_plan_0 bX11_plan_12
  by_cases c : x < 0
  · rw [if_pos c]
  · have hx2 : nI tl < x := hx.resolve_left c
    rw [if_neg c, gI11 1 rfl, ob_s, h.1, if_neg (fun z => by rw [i32_le] at z; rw [i32_lt] at hx2; omega)]
end CPN
