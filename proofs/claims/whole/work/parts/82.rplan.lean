/- needs: 81.cplan -/
/-! plan, the reference's -/
section RPN
variable {N : Nat} {T : Nat → Nat} {s : sg}
theorem r_pl50 : ∀ (f i : Nat) (s : sg), 8 - i < f → i ≤ 8 → (∀ j, j < i → s.1 422 (8 + j) = nI (pX0.1 j)) → ∃ s', lX12_plan_50 N f 419 (nI i) (mk s) = bX12_plan_102 N 419 (mk s') ∧ (∀ j, j < 8 → s'.1 422 (8 + j) = nI (pX0.1 j)) ∧ Fr (fun x j => x = 422 ∧ 8 ≤ j) s s' := by
  intro f
  induction f with
  | zero => intro i s h; omega
  | succ f ih =>
    intro i s hf hi hz
    show ∃ s', bX12_plan_50 N (lX12_plan_50 N f) 419 (nI i) (mk s) = _ ∧ _
    unfold bX12_plan_50
    by_cases c : 8 ≤ i
    · rw [if_pos (show (8 : Int32) ≤ nI i from nI_le (a := 8) c (by omega))]
      exact ⟨s, rfl, fun j hj => hz j (by omega), Fr_r _ _⟩
    · have key : ∀ x : Int32, x = nI (pX0.1 i) → ∃ s', bX12_plan_95 N (lX12_plan_50 N f) 419 (nI i) 422 (nI (8 + i)) x (mk s) = bX12_plan_102 N 419 (mk s') ∧ (∀ j, j < 8 → s'.1 422 (8 + j) = nI (pX0.1 j)) ∧ Fr (fun x j => x = 422 ∧ 8 ≤ j) s s' := by
        intro x hx
        have f1 : Fr (fun x j => x = 422 ∧ 8 ≤ j) s (sI s 422 (8 + i) x) := Fr_sI (by omega)
        obtain ⟨s', b1, b2, b3⟩ := ih (i + 1) (sI s 422 (8 + i) x) (by omega) (by omega) (fun j hj => by
          rw [sI_1]
          by_cases c2 : j = i
          · rw [if_pos (by omega), hx, c2]
          · rw [if_neg (by omega)]; exact hz j (by omega))
        refine ⟨s', ?_, b2, Fr_t f1 b3⟩
        unfold bX12_plan_95
        rw [t422 (by omega), ob_s, nI_1, b1]
      rw [if_neg (show ¬ (8 : Int32) ≤ nI i from nI_ge (b := 8) (by omega) (by omega)), gR12 3 422 rfl rfl, ob_s, e8n]
      by_cases c1 : i = 1
      · subst c1
        rw [if_neg (fun z => z rfl)]
        exact key 240 rfl
      · rw [if_pos (nI_ne (c := 1) (x := 1) rfl (by omega) (by omega) c1)]
        by_cases c2 : i = 2
        · subst c2
          rw [if_neg (fun z => z rfl)]
          exact key 50 rfl
        · rw [if_pos (nI_ne (c := 2) (x := 2) rfl (by omega) (by omega) c2)]
          by_cases c3 : i = 3
          · subst c3
            rw [if_neg (fun z => z rfl)]
            exact key 1 rfl
          · rw [if_pos (nI_ne (c := 3) (x := 3) rfl (by omega) (by omega) c3)]
            refine key 0 ?_
            show 0 = nI (if i = 1 then 240 else if i = 2 then 50 else if i = 3 then 1 else 0)
            rw [if_neg c1, if_neg c2, if_neg c3]
            rfl
theorem r_pl104 : ∀ (f i : Nat) (s : sg), 480 - i < f → i ≤ 480 → (∀ m, m < i → s.1 429 (480 + m) = 0) → ∃ s', lX12_plan_104 N f 419 (nI i) (mk s) = bX12_plan_128 N 419 (mk s') ∧ (∀ m, m < 480 → s'.1 429 (480 + m) = 0) ∧ Fr (fun x j => x = 429 ∧ 480 ≤ j) s s' := by
  intro f
  induction f with
  | zero => intro i s h; omega
  | succ f ih =>
    intro i s hf hi hz
    show ∃ s', bX12_plan_104 N (lX12_plan_104 N f) 419 (nI i) (mk s) = _ ∧ _
    unfold bX12_plan_104
    by_cases c : 480 ≤ i
    · rw [if_pos (show (480 : Int32) ≤ nI i from nI_le (a := 480) c (by omega))]
      exact ⟨s, rfl, fun j hj => hz j (by omega), Fr_r _ _⟩
    · have e48 : (480 : Int32) + nI i = nI (480 + i) := nI_add 480 i
      have f1 : Fr (fun x j => x = 429 ∧ 480 ≤ j) s (sI s 429 (480 + i) 0) := Fr_sI (by omega)
      obtain ⟨s', b1, b2, b3⟩ := ih (i + 1) (sI s 429 (480 + i) 0) (by omega) (by omega) (fun j hj => by
        rw [sI_1]
        by_cases c2 : j = i
        · rw [if_pos (by omega)]
        · rw [if_neg (by omega)]; exact hz j (by omega))
      refine ⟨s', ?_, b2, Fr_t f1 b3⟩
      rw [if_neg (show ¬ (480 : Int32) ≤ nI i from nI_ge (b := 480) (by omega) (by omega)), gR12 10 429 rfl rfl, ob_s, e48, t429 (by omega), ob_s, nI_1, b1]
def rP0 (x j : Nat) : Prop := rF x j ∨ (x = 419 ∧ (j = 2 ∨ j = 16 ∨ j = 18 ∨ j = 25))
theorem r_plBg {tl n : Nat} (hN1 : 1000 ≤ N) (htl : tl ≤ 700) (hn : n ≤ tl) (hT : ∀ j, j < tl → T j < 256) (h : TpR s tl T) : ∃ s3, RX T n s3 0 pX0 ∧ s3.1 419 2 = 0 ∧ s3.1 419 16 = nI 0 ∧ s3.1 419 25 = -1 ∧ Fr rP0 s s3 ∧ fX12_plan N 419 (nI n) (mk s) = lX12_plan_134 N N 419 (nI (dn pX0.1)) (mk s3) := by
  generalize hs1 : sI (sI (sI (sI (sI (sI s 419 2 0) 419 16 0) 419 18 (nI n)) 419 17 0) 419 23 0) 419 25 (-1) = s1
  have f1 : Fr (fun x j => x = 419 ∧ (j = 2 ∨ j = 16 ∨ j = 18 ∨ j = 17 ∨ j = 23 ∨ j = 25)) s s1 := by
    rw [← hs1]
    exact Fr_t (Fr_t (Fr_t (Fr_t (Fr_t (Fr_sI (by omega)) (Fr_sI (by omega))) (Fr_sI (by omega))) (Fr_sI (by omega))) (Fr_sI (by omega))) (Fr_sI (by omega))
  obtain ⟨s2, a1, a2, a3⟩ := r_pl50 (N := N) N 0 s1 (by omega) (by omega) (fun j hj => absurd hj (Nat.not_lt_zero _))
  obtain ⟨s3, b1, b2, b3⟩ := r_pl104 (N := N) N 0 s2 (by omega) (by omega) (fun j hj => absurd hj (Nat.not_lt_zero _))
  have g : ∀ j, s3.1 419 j = s1.1 419 j := fun j => by rw [b3.1 _ _ (by omega), a3.1 _ _ (by omega)]
  have k2 : s1.1 419 2 = 0 := by rw [← hs1]; simp only [sI_1]; simp
  have k16 : s1.1 419 16 = 0 := by rw [← hs1]; simp only [sI_1]; simp
  have k18 : s1.1 419 18 = nI n := by rw [← hs1]; simp only [sI_1]; simp
  have k17 : s1.1 419 17 = 0 := by rw [← hs1]; simp only [sI_1]; simp
  have k23 : s1.1 419 23 = 0 := by rw [← hs1]; simp only [sI_1]; simp
  have k25 : s1.1 419 25 = -1 := by rw [← hs1]; simp only [sI_1]; simp
  have t3 : TxR s3 n T := ⟨(g 18).trans k18, fun j hj => by rw [b3.1 _ _ (by omega), a3.1 _ _ (by omega), f1.1 _ _ (by omega)]; exact h.2 j (by omega)⟩
  obtain ⟨s4, d1, d2, d3, d4, d5⟩ := r_step (N := N) (s := s3) (T := T) (L := n) (e := 0) hN1 (by omega) (fun j hj => hT j (by omega)) t3 (Nat.zero_le _) ((g 17).trans k17)
  have u : ∀ x j, ¬ rT x j → s4.1 x j = s3.1 x j := fun x j q => d5.1 x j q
  have w422 : ∀ j, j < 8 → s4.1 422 (8 + j) = nI (pX0.1 j) := fun j hj => by rw [u _ _ (by unfold rT; omega), b3.1 _ _ (by omega)]; exact a2 j hj
  refine ⟨s4, ⟨⟨d4, d2, d3, ?_, w422 6 (by omega), fun j hj => absurd hj (Nat.not_lt_zero _)⟩, fun i hi => w422 i (by omega), w422 7 (by omega), fun f k _ _ hk => absurd hk (Nat.not_lt_zero _), fun m hm => ?_, fun i hi => absurd hi (Nat.not_lt_zero _)⟩, ?_, ?_, ?_, ?_, ?_⟩
  · rw [u _ _ (by unfold rT; omega), g]; exact k23
  · rw [u _ _ (by unfold rT; omega)]; exact b2 m hm
  · rw [u _ _ (by unfold rT; omega), g]; exact k2
  · rw [u _ _ (by unfold rT; omega), g]; exact k16
  · rw [u _ _ (by unfold rT; omega), g]; exact k25
  · exact Fr_t (Fr_m f1 (by intro x j q; unfold rP0 rF; omega)) (Fr_t (Fr_m a3 (by intro x j q; unfold rP0 rF; omega)) (Fr_t (Fr_m b3 (by intro x j q; unfold rP0 rF; omega)) (Fr_m d5 (by intro x j q; unfold rT at q; unfold rP0 rF; omega))))
  · have h16 : (sI s 419 2 0).1 419 16 = nI tl := by rw [sI_1, if_neg (by omega)]; exact h.1
    have a1' : lX12_plan_50 N N 419 (0 : Int32) (mk s1) = bX12_plan_102 N 419 (mk s2) := a1
    have b1' : lX12_plan_104 N N 419 (0 : Int32) (mk s2) = bX12_plan_128 N 419 (mk s3) := b1
    unfold fX12_plan bX12_plan_0
    rw [pI12 2 rfl, ob_s, if_neg (show ¬ nI n < 0 from nI_nlt (b := 0) (Nat.zero_le _) (by omega)), gI12 16 rfl, ob_s, h16, if_pos (nI_le hn (by omega)), pI12 16 rfl, ob_s, pI12 18 rfl, ob_s, pI12 17 rfl, ob_s, pI12 23 rfl, ob_s, pI12 25 rfl, ob_s, hs1, a1']
    unfold bX12_plan_102
    rw [b1']
    unfold bX12_plan_128
    rw [cV12, d1, cS_l]
    rfl
theorem r_planX {x : Int32} {tl : Nat} (htl : tl ≤ 700) (h : TpR s tl T) (hx : x < 0 ∨ nI tl < x) : fX12_plan N 419 x (mk s) = some (.inl 0, mk (sI (sI s 419 2 0) 419 2 1)) := by
  have h16 : (sI s 419 2 0).1 419 16 = nI tl := by rw [sI_1, if_neg (by omega)]; exact h.1
  have hf : fX12_fail N 419 (1 : Int32) (mk (sI s 419 2 0)) = some (.inl 0, mk (sI (sI s 419 2 0) 419 2 1)) := by
    unfold fX12_fail bX12_fail_0
    rw [pI12 2 rfl, ob_s]
  unfold fX12_plan bX12_plan_0 bX12_plan_17
  rw [pI12 2 rfl, ob_s]
  by_cases c : x < 0
  · rw [if_pos c, cV12, hf, cS_l]
  · have hx2 : nI tl < x := hx.resolve_left c
    rw [if_neg c, gI12 16 rfl, ob_s, h16, if_neg (fun z => by rw [i32_le] at z; rw [i32_lt] at hx2; omega), cV12, hf, cS_l]
def rPf (x j : Nat) : Prop := rP0 x j ∨ (x = 433 ∧ j = 0)
theorem r_planF {tl n f e1 p : Nat} {F : mm_C → mR Unit} (hN1 : 1000 ≤ N) (htl : tl ≤ 700) (hn : n ≤ tl) (hT : ∀ j, j < tl → T j < 256) (h : TpR s tl T) (ho : Ls T n p F (lX12_plan_134 N N 419 (nI (dn pX0.1))) (bX12_plan_157 N 419) 0 pX0 (.inl (f, e1))) : ∃ s', fX12_plan N 419 (nI n) (mk s) = some (.inl (nI f), mk s') ∧ s'.1 419 2 = 0 ∧ s'.1 419 16 = nI 0 ∧ s'.1 419 25 = nI (tkA T n e1) ∧ s'.1 433 0 = s.1 433 0 + 1 ∧ Fr rPf s s' := by
  obtain ⟨s3, a1, a2, a3, a4, a5, a6⟩ := r_plBg (N := N) hN1 htl hn hT h
  obtain ⟨h0, _, h2⟩ := ho
  obtain ⟨s4, b1, b2, b3, b4⟩ := h2 s3 a1
  have hb : ¬ s4.1 419 23 = 0 := by rw [b2]; exact nI_b h0.1 h0.2.1
  have a33 : ∀ s : sg, aI (mk s) 433 (0 : Int32) = some (s.1 433 0) := fun s => aI_k (i := 0) ⟨rfl, by decide⟩
  have t33 : ∀ (s : sg) x, tI (mk s) 433 (0 : Int32) x = some (mk (sI s 433 0 x)) := fun s x => tI_k (i := 0) ⟨rfl, by decide⟩
  have k33 : s4.1 433 0 = s.1 433 0 := (b4.1 _ _ (by unfold rF; omega)).trans (a5.1 _ _ (by unfold rP0 rF; omega))
  have k33' : (sI s4 419 25 (nI (tkA T n e1))).1 433 0 = s.1 433 0 := by rw [sI_1, if_neg (by omega)]; exact k33
  have f4 : Fr rPf s s4 := Fr_t (Fr_m a5 (fun x j q => Or.inl q)) (Fr_m b4 (fun x j q => Or.inl (Or.inl q)))
  refine ⟨sI (sI s4 419 25 (nI (tkA T n e1))) 433 0 (s.1 433 0 + 1), ?_, ?_, ?_, ?_, sI_at _ _ _ _, Fr_t f4 (Fr_t (Fr_sI (by unfold rPf rP0; omega)) (Fr_sI (by unfold rPf; omega)))⟩
  · have k23 : (sI (sI s4 419 25 (nI (tkA T n e1))) 433 0 (s.1 433 0 + 1)).1 419 23 = nI f := by rw [sI_1, if_neg (by omega), sI_1, if_neg (by omega)]; exact b2
    rw [a6, b1]
    unfold bX12_plan_157
    rw [gI12 23 rfl, ob_s, if_neg hb, gI12 24 rfl, ob_s, b3, pI12 25 rfl, ob_s, gR12 14 433 rfl rfl, ob_s, a33, ob_s, k33', t33, ob_s, gI12 23 rfl, ob_s, k23]
  · rw [sI_1, if_neg (by omega), sI_1, if_neg (by omega), b4.1 _ _ (by unfold rF; omega)]; exact a2
  · rw [sI_1, if_neg (by omega), sI_1, if_neg (by omega), b4.1 _ _ (by unfold rF; omega)]; exact a3
  · rw [sI_1, if_neg (by omega), sI_at]
theorem th_ex {a n : Nat} (hN1 : 1000 ≤ N) (ha : kc a = 20) (hn : kn a = 2 * n) (hn2 : n ≤ 700) : ∃ s', fX12_takeHalf N a (mk s) = some (.inl (), mk s') ∧ (∀ j, j < n → s'.1 a j = s.1 a (n + j)) ∧ Fr (fun x j => x = a ∧ j < n) s s' := by
  refine ⟨_, m_takeHalf hN1 ha hn hn2, fun j hj => ?_, fun x j q => ?_, fun _ _ _ => rfl, rfl⟩
  · rw [sA_1, if_pos rfl, if_pos hj]
  · rw [sA_1]
    by_cases c : x = a
    · rw [if_pos c, if_neg (fun z => q ⟨c, z⟩), c]
    · rw [if_neg c]
def rTk (x j : Nat) : Prop := x = 435 ∨ (x = 419 ∧ (j = 28 ∨ j = 29 ∨ j = 52))
theorem r_tk79 : ∀ (f i : Nat) (s : sg), 15 - i < f → i ≤ 15 → (∀ j, j < i → s.1 435 j = 0) → ∃ s', lX12_takeOver_79 N f 419 (nI i) (mk s) = some (.inl (), mk s') ∧ (∀ j, j < 15 → s'.1 435 j = 0) ∧ s'.1 419 28 = nI 0 ∧ s'.1 419 29 = nI 0 ∧ s'.1 419 52 = 0 ∧ Fr rTk s s' := by
  intro f
  induction f with
  | zero => intro i s h; omega
  | succ f ih =>
    intro i s hf hi hz
    show ∃ s', bX12_takeOver_79 N (lX12_takeOver_79 N f) 419 (nI i) (mk s) = _ ∧ _
    unfold bX12_takeOver_79
    by_cases c : 15 ≤ i
    · rw [if_pos (show (15 : Int32) ≤ nI i from nI_le (a := 15) c (by omega))]
      have z52 : ∀ s : sg, pZ (mk s) 419 12 52 0 = some (mk (sI s 419 52 0)) := fun s => pZ_k ⟨rfl, rfl, by decide⟩ (Or.inl rfl)
      refine ⟨sI (sI (sI s 419 28 0) 419 29 0) 419 52 0, ?_, fun j hj => ?_, ?_, ?_, sI_at _ _ _ _, Fr_t (Fr_t (Fr_sI (by unfold rTk; omega)) (Fr_sI (by unfold rTk; omega))) (Fr_sI (by unfold rTk; omega))⟩
      · unfold bX12_takeOver_98
        rw [pI12 28 rfl, ob_s, pI12 29 rfl, ob_s, z52, ob_s]
      · rw [sI_1, if_neg (by omega), sI_1, if_neg (by omega), sI_1, if_neg (by omega)]; exact hz j (by omega)
      · rw [sI_1, if_neg (by omega), sI_1, if_neg (by omega), sI_at]; rfl
      · rw [sI_1, if_neg (by omega), sI_at]; rfl
    · rw [if_neg (show ¬ (15 : Int32) ≤ nI i from nI_ge (b := 15) (by omega) (by omega)), gR12 26 435 rfl rfl, ob_s, tI_k (a := 435) ⟨rfl, inA_nI (show i < 15 by omega) (by omega)⟩, ob_s, nI_clamp (by omega), nI_1]
      obtain ⟨s', b1, b2, b3, b4, b5, b6⟩ := ih (i + 1) (sI s 435 i 0) (by omega) (by omega) (fun j hj => by
        rw [sI_1]
        by_cases c2 : j = i
        · rw [if_pos (by omega)]
        · rw [if_neg (by omega)]; exact hz j (by omega))
      exact ⟨s', b1, b2, b3, b4, b5, Fr_t (Fr_sI (Or.inl rfl)) b6⟩
/-- what was told becomes what holds -/
def hfN (x : Nat) : Nat := if x ≤ 428 then 8 else if x = 429 then 480 else if x ≤ 431 then 4 else 700
theorem r_takeOver (hN1 : 1000 ≤ N) : ∃ s', fX12_takeOver N 419 (mk s) = some (.inl (), mk s') ∧ (∀ x j, 422 ≤ x → x ≤ 432 → j < hfN x → s'.1 x j = s.1 x (hfN x + j)) ∧ (∀ j, j < 15 → s'.1 435 j = 0) ∧ s'.1 419 28 = nI 0 ∧ s'.1 419 29 = nI 0 ∧ s'.1 419 52 = 0 ∧ Fr (fun x j => (422 ≤ x ∧ x ≤ 432) ∨ rTk x j) s s' := by
  obtain ⟨t1, a1, b1, f1⟩ := th_ex (N := N) (s := s) (a := 422) (n := 8) hN1 rfl rfl (by omega)
  obtain ⟨t2, a2, b2, f2⟩ := th_ex (N := N) (s := t1) (a := 423) (n := 8) hN1 rfl rfl (by omega)
  obtain ⟨t3, a3, b3, f3⟩ := th_ex (N := N) (s := t2) (a := 424) (n := 8) hN1 rfl rfl (by omega)
  obtain ⟨t4, a4, b4, f4⟩ := th_ex (N := N) (s := t3) (a := 425) (n := 8) hN1 rfl rfl (by omega)
  obtain ⟨t5, a5, b5, f5⟩ := th_ex (N := N) (s := t4) (a := 426) (n := 8) hN1 rfl rfl (by omega)
  obtain ⟨t6, a6, b6, f6⟩ := th_ex (N := N) (s := t5) (a := 427) (n := 8) hN1 rfl rfl (by omega)
  obtain ⟨t7, a7, b7, f7⟩ := th_ex (N := N) (s := t6) (a := 428) (n := 8) hN1 rfl rfl (by omega)
  obtain ⟨t8, a8, b8, f8⟩ := th_ex (N := N) (s := t7) (a := 429) (n := 480) hN1 rfl rfl (by omega)
  obtain ⟨t9, a9, b9, f9⟩ := th_ex (N := N) (s := t8) (a := 430) (n := 4) hN1 rfl rfl (by omega)
  obtain ⟨t10, a10, b10, f10⟩ := th_ex (N := N) (s := t9) (a := 431) (n := 4) hN1 rfl rfl (by omega)
  obtain ⟨t11, a11, b11, f11⟩ := th_ex (N := N) (s := t10) (a := 432) (n := 700) hN1 rfl rfl (by omega)
  have z11 : Fr (fun x (_ : Nat) => 433 ≤ x ∧ x ≤ 432) t11 t11 := Fr_r _ _
  have z10 : Fr (fun x (_ : Nat) => 432 ≤ x ∧ x ≤ 432) t10 t11 := Fr_t (Fr_m f11 (by intro x j q; omega)) (Fr_m z11 (by intro x j q; omega))
  have z9 : Fr (fun x (_ : Nat) => 431 ≤ x ∧ x ≤ 432) t9 t11 := Fr_t (Fr_m f10 (by intro x j q; omega)) (Fr_m z10 (by intro x j q; omega))
  have z8 : Fr (fun x (_ : Nat) => 430 ≤ x ∧ x ≤ 432) t8 t11 := Fr_t (Fr_m f9 (by intro x j q; omega)) (Fr_m z9 (by intro x j q; omega))
  have z7 : Fr (fun x (_ : Nat) => 429 ≤ x ∧ x ≤ 432) t7 t11 := Fr_t (Fr_m f8 (by intro x j q; omega)) (Fr_m z8 (by intro x j q; omega))
  have z6 : Fr (fun x (_ : Nat) => 428 ≤ x ∧ x ≤ 432) t6 t11 := Fr_t (Fr_m f7 (by intro x j q; omega)) (Fr_m z7 (by intro x j q; omega))
  have z5 : Fr (fun x (_ : Nat) => 427 ≤ x ∧ x ≤ 432) t5 t11 := Fr_t (Fr_m f6 (by intro x j q; omega)) (Fr_m z6 (by intro x j q; omega))
  have z4 : Fr (fun x (_ : Nat) => 426 ≤ x ∧ x ≤ 432) t4 t11 := Fr_t (Fr_m f5 (by intro x j q; omega)) (Fr_m z5 (by intro x j q; omega))
  have z3 : Fr (fun x (_ : Nat) => 425 ≤ x ∧ x ≤ 432) t3 t11 := Fr_t (Fr_m f4 (by intro x j q; omega)) (Fr_m z4 (by intro x j q; omega))
  have z2 : Fr (fun x (_ : Nat) => 424 ≤ x ∧ x ≤ 432) t2 t11 := Fr_t (Fr_m f3 (by intro x j q; omega)) (Fr_m z3 (by intro x j q; omega))
  have z1 : Fr (fun x (_ : Nat) => 423 ≤ x ∧ x ≤ 432) t1 t11 := Fr_t (Fr_m f2 (by intro x j q; omega)) (Fr_m z2 (by intro x j q; omega))
  have z0 : Fr (fun x (_ : Nat) => 422 ≤ x ∧ x ≤ 432) s t11 := Fr_t (Fr_m f1 (by intro x j q; omega)) (Fr_m z1 (by intro x j q; omega))
  have y1 : Fr (fun x (_ : Nat) => 422 ≤ x ∧ x < 422) s s := Fr_r _ _
  have y2 : Fr (fun x (_ : Nat) => 422 ≤ x ∧ x < 423) s t1 := Fr_t (Fr_m y1 (by intro x j q; omega)) (Fr_m f1 (by intro x j q; omega))
  have y3 : Fr (fun x (_ : Nat) => 422 ≤ x ∧ x < 424) s t2 := Fr_t (Fr_m y2 (by intro x j q; omega)) (Fr_m f2 (by intro x j q; omega))
  have y4 : Fr (fun x (_ : Nat) => 422 ≤ x ∧ x < 425) s t3 := Fr_t (Fr_m y3 (by intro x j q; omega)) (Fr_m f3 (by intro x j q; omega))
  have y5 : Fr (fun x (_ : Nat) => 422 ≤ x ∧ x < 426) s t4 := Fr_t (Fr_m y4 (by intro x j q; omega)) (Fr_m f4 (by intro x j q; omega))
  have y6 : Fr (fun x (_ : Nat) => 422 ≤ x ∧ x < 427) s t5 := Fr_t (Fr_m y5 (by intro x j q; omega)) (Fr_m f5 (by intro x j q; omega))
  have y7 : Fr (fun x (_ : Nat) => 422 ≤ x ∧ x < 428) s t6 := Fr_t (Fr_m y6 (by intro x j q; omega)) (Fr_m f6 (by intro x j q; omega))
  have y8 : Fr (fun x (_ : Nat) => 422 ≤ x ∧ x < 429) s t7 := Fr_t (Fr_m y7 (by intro x j q; omega)) (Fr_m f7 (by intro x j q; omega))
  have y9 : Fr (fun x (_ : Nat) => 422 ≤ x ∧ x < 430) s t8 := Fr_t (Fr_m y8 (by intro x j q; omega)) (Fr_m f8 (by intro x j q; omega))
  have y10 : Fr (fun x (_ : Nat) => 422 ≤ x ∧ x < 431) s t9 := Fr_t (Fr_m y9 (by intro x j q; omega)) (Fr_m f9 (by intro x j q; omega))
  have y11 : Fr (fun x (_ : Nat) => 422 ≤ x ∧ x < 432) s t10 := Fr_t (Fr_m y10 (by intro x j q; omega)) (Fr_m f10 (by intro x j q; omega))
  have v1 : ∀ j, j < 8 → t11.1 422 j = s.1 422 (8 + j) := fun j hj => (z1.1 _ _ (by omega)).trans ((b1 j hj).trans (y1.1 _ _ (by omega)))
  have v2 : ∀ j, j < 8 → t11.1 423 j = s.1 423 (8 + j) := fun j hj => (z2.1 _ _ (by omega)).trans ((b2 j hj).trans (y2.1 _ _ (by omega)))
  have v3 : ∀ j, j < 8 → t11.1 424 j = s.1 424 (8 + j) := fun j hj => (z3.1 _ _ (by omega)).trans ((b3 j hj).trans (y3.1 _ _ (by omega)))
  have v4 : ∀ j, j < 8 → t11.1 425 j = s.1 425 (8 + j) := fun j hj => (z4.1 _ _ (by omega)).trans ((b4 j hj).trans (y4.1 _ _ (by omega)))
  have v5 : ∀ j, j < 8 → t11.1 426 j = s.1 426 (8 + j) := fun j hj => (z5.1 _ _ (by omega)).trans ((b5 j hj).trans (y5.1 _ _ (by omega)))
  have v6 : ∀ j, j < 8 → t11.1 427 j = s.1 427 (8 + j) := fun j hj => (z6.1 _ _ (by omega)).trans ((b6 j hj).trans (y6.1 _ _ (by omega)))
  have v7 : ∀ j, j < 8 → t11.1 428 j = s.1 428 (8 + j) := fun j hj => (z7.1 _ _ (by omega)).trans ((b7 j hj).trans (y7.1 _ _ (by omega)))
  have v8 : ∀ j, j < 480 → t11.1 429 j = s.1 429 (480 + j) := fun j hj => (z8.1 _ _ (by omega)).trans ((b8 j hj).trans (y8.1 _ _ (by omega)))
  have v9 : ∀ j, j < 4 → t11.1 430 j = s.1 430 (4 + j) := fun j hj => (z9.1 _ _ (by omega)).trans ((b9 j hj).trans (y9.1 _ _ (by omega)))
  have v10 : ∀ j, j < 4 → t11.1 431 j = s.1 431 (4 + j) := fun j hj => (z10.1 _ _ (by omega)).trans ((b10 j hj).trans (y10.1 _ _ (by omega)))
  have v11 : ∀ j, j < 700 → t11.1 432 j = s.1 432 (700 + j) := fun j hj => (z11.1 _ _ (by omega)).trans ((b11 j hj).trans (y11.1 _ _ (by omega)))
  obtain ⟨s', c1, c2, c3, c4, c5, c6⟩ := r_tk79 (N := N) N 0 t11 (by omega) (by omega) (fun j hj => absurd hj (Nat.not_lt_zero _))
  refine ⟨s', ?_, fun x j h1 h2 hj => ?_, c2, c3, c4, c5, Fr_t (Fr_m z0 (fun x j q => Or.inl q)) (Fr_m c6 (fun x j q => Or.inr q))⟩
  · have c1' : lX12_takeOver_79 N N 419 (0 : Int32) (mk t11) = some (.inl (), mk s') := c1
    unfold fX12_takeOver bX12_takeOver_0
    rw [gR12 3 422 rfl rfl, ob_s, a1, cS_l, gR12 4 423 rfl rfl, ob_s, a2, cS_l, gR12 5 424 rfl rfl, ob_s, a3, cS_l, gR12 6 425 rfl rfl, ob_s, a4, cS_l, gR12 7 426 rfl rfl, ob_s, a5, cS_l, gR12 8 427 rfl rfl, ob_s, a6, cS_l, gR12 9 428 rfl rfl, ob_s, a7, cS_l, gR12 10 429 rfl rfl, ob_s, a8, cS_l, gR12 11 430 rfl rfl, ob_s, a9, cS_l, gR12 12 431 rfl rfl, ob_s, a10, cS_l, gR12 13 432 rfl rfl, ob_s, a11, cS_l, c1']
  · rw [c6.1 _ _ (by unfold rTk; omega)]
    obtain rfl | rfl | rfl | rfl | rfl | rfl | rfl | rfl | rfl | rfl | rfl : x = 422 ∨ x = 423 ∨ x = 424 ∨ x = 425 ∨ x = 426 ∨ x = 427 ∨ x = 428 ∨ x = 429 ∨ x = 430 ∨ x = 431 ∨ x = 432 := by omega
    · exact v1 j hj
    · exact v2 j hj
    · exact v3 j hj
    · exact v4 j hj
    · exact v5 j hj
    · exact v6 j hj
    · exact v7 j hj
    · exact v8 j hj
    · exact v9 j hj
    · exact v10 j hj
    · exact v11 j hj
theorem r_planG {tl n e1 p : Nat} {X1 : pX} {F : mm_C → mR Unit} (hN1 : 1000 ≤ N) (htl : tl ≤ 700) (hn : n ≤ tl) (hT : ∀ j, j < tl → T j < 256) (h : TpR s tl T) (ho : Ls T n p F (lX12_plan_134 N N 419 (nI (dn pX0.1))) (bX12_plan_157 N 419) 0 pX0 (.inr (e1, X1))) : ∃ s4 s', RX T n s4 e1 X1 ∧ fX12_plan N 419 (nI n) (mk s) = some (.inl 0, mk s') ∧ (∀ x j, 422 ≤ x → x ≤ 432 → j < hfN x → s'.1 x j = s4.1 x (hfN x + j)) ∧ (∀ j, j < 15 → s'.1 435 j = 0) ∧ s'.1 419 28 = nI 0 ∧ s'.1 419 29 = nI 0 ∧ s'.1 419 52 = 0 ∧ s'.1 419 2 = 0 ∧ s'.1 419 16 = nI 0 ∧ s'.1 419 25 = -1 ∧ Fr (fun x j => (422 ≤ x ∧ x ≤ 432) ∨ rTk x j ∨ rP0 x j) s s' := by
  obtain ⟨s3, a1, a2, a3, a4, a5, a6⟩ := r_plBg (N := N) hN1 htl hn hT h
  obtain ⟨h0, _, h2⟩ := ho
  obtain ⟨s4, b1, b2, b4⟩ := h2 s3 a1
  obtain ⟨s', c1, c2, c3, c4, c5, c6, c7⟩ := r_takeOver (N := N) (s := s4) hN1
  refine ⟨s4, s', b2, ?_, c2, c3, c4, c5, c6, ?_, ?_, ?_, Fr_t (Fr_m a5 (fun x j q => Or.inr (Or.inr q))) (Fr_t (Fr_m b4 (fun x j q => Or.inr (Or.inr (Or.inl q)))) (Fr_m c7 (fun x j q => q.elim Or.inl (fun q => Or.inr (Or.inl q)))))⟩
  · rw [a6, b1]
    unfold bX12_plan_157
    rw [gI12 23 rfl, ob_s, b2.1.2.2.2.1, if_pos rfl, cV12, c1, cS_l]
  · rw [c7.1 _ _ (by unfold rTk; omega), b4.1 _ _ (by unfold rF; omega)]; exact a2
  · rw [c7.1 _ _ (by unfold rTk; omega), b4.1 _ _ (by unfold rF; omega)]; exact a3
  · rw [c7.1 _ _ (by unfold rTk; omega), b4.1 _ _ (by unfold rF; omega)]; exact a4
end RPN
