/- needs: 86.steps -/
/-! each call keeps what holds: acts, the tape -/
def cvB (r : Int32) : Int64 := if r = 0 then 0 else 1
def lwB (N : Nat) (F G : mm_C → mR Int32) (k : mm_C → mR Int32) (c : mm_C) : mR Int32 :=
  cS (cX 11 0 c (F c) (fun r3 c4 => if r3 = 0 then (Option.bind (tL c4 453 (0 : Int32) (0 : Int64)) fun c7 => some (.inl (0 : Int32), c7)) else (Option.bind (tL c4 453 (0 : Int32) (1 : Int64)) fun c8 => some (.inl (0 : Int32), c8))) (fun e6 c5 => if e6 = 1 then (some (.inl (1 : Int32), c5)) else (none))) fun r3 c4 => cV 12 419 c4 (G c4) fun r7 c8 => cV 12 419 c8 (fX12_thrown N 419 c8) fun r9 c10 => if r9 = r3 then (if ¬ r3 = 0 then (k c10) else (Option.bind (aL c10 453 (0 : Int32)) fun x11 => if r7 = 0 then (if (lg_cmp x11 (0 : Int64)) = 0 then (k c10) else (rZ (0 : Int32) c10)) else (if (lg_cmp x11 (1 : Int64)) = 0 then (k c10) else (rZ (0 : Int32) c10)))) else (rZ (0 : Int32) c10)
theorem lwB_eq (N : Nat) (F G : mm_C → mR Int32) (k : mm_C → mR Int32) (c : mm_C) : lwB N F G k c = lwT N cvB exA F G k c := by
  have e1 : (fun (r3 : Int32) (c4 : mm_C) => if r3 = 0 then (Option.bind (tL c4 453 (0 : Int32) (0 : Int64)) fun c7 => (some (Sum.inl (0 : Int32), c7) : mR Int32)) else (Option.bind (tL c4 453 (0 : Int32) (1 : Int64)) fun c8 => some (Sum.inl (0 : Int32), c8))) = fun r3 c4 => Option.bind (tL c4 453 (0 : Int32) (cvB r3)) fun c7 => some (Sum.inl (0 : Int32), c7) := by
    funext r3 c4
    unfold cvB
    by_cases h : r3 = 0
    · rw [if_pos h, if_pos h]
    · rw [if_neg h, if_neg h]
  have e2 : ∀ (r7 : Int32) (x11 : Int64) (c10 : mm_C), (if r7 = 0 then (if (lg_cmp x11 (0 : Int64)) = 0 then (k c10) else (rZ (0 : Int32) c10)) else (if (lg_cmp x11 (1 : Int64)) = 0 then (k c10) else (rZ (0 : Int32) c10))) = if lg_cmp x11 (cvB r7) = 0 then k c10 else rZ (0 : Int32) c10 := by
    intro r7 x11 c10
    unfold cvB
    by_cases h : r7 = 0
    · rw [if_pos h, if_pos h]
    · rw [if_neg h, if_neg h]
  unfold lwB lwT
  rw [e1]
  simp only [e2]
  rfl
section SA
variable {N : Nat}
theorem W_S {P : pln} {n D mv nr : Nat} {q : Nat → Int32} {b : Nat → Nat} {S S2 : scn} {tl : Nat} {T : Nat → Nat} {hi : Bool} {S' : scn} (W : WI P n D mv nr q b S tl T hi S') (h : WS n D S2) : WI P n D mv nr q b S2 tl T hi S' := ⟨W.1, W.2.1, W.2.2.1, h, W.2.2.2.2⟩
theorem dr2 {α : Type} {G : mm_C → mR α} {r : α} {s : sg} {A : sg → Prop} {B : sg → Prop} (h : ∃ s3, G (mk s) = some (.inl r, mk s3) ∧ s3.1 419 2 = 0 ∧ A s3 ∧ B s3) : ∃ s3, G (mk s) = some (.inl r, mk s3) ∧ A s3 ∧ B s3 := by
  obtain ⟨s3, a1, _, a2⟩ := h
  exact ⟨s3, a1, a2⟩
theorem st_take (hN2 : 2000 ≤ N) (x : Int32) : StpI (lwT N Int32.toInt64 exA (fX11_take N 0 x) (fX12_take N 419 x)) := by
  intro s hI
  obtain ⟨p, P, n, D, mv, nr, q, b, S, tl, T, fp, hi, S', C, R, W⟩ := hI
  have hn8 := W.1.1
  have hZ := W.2.2.2.1
  rcases rng x n (by omega) with ⟨k, hk, rfl, _⟩ | ⟨g1, g2, g3⟩
  · exact gT_ok R (W_S W (WS_take W.1 hZ hk)) (cm_C W C (c_take (by omega) W.1 hZ C.1 hk)) (fun s R => rm_R R (r_take hN2 W.1 hZ R.1 hk))
  · exact gT_ex (e := 1) (t := 1) (r := 0) W C R (c0_C (c_take' C.1 g1)) ex1 (by omega) (fun s R => r1_R (r_take' W.1 R.1 g2))
theorem st_await (hN2 : 2000 ≤ N) (x : Int32) : StpI (lwN eqI (fX11_await N 0 x) (fX12_await N 419 x)) := by
  intro s hI
  obtain ⟨p, P, n, D, mv, nr, q, b, S, tl, T, fp, hi, S', C, R, W⟩ := hI
  have hZ := W.2.2.2.1
  exact gN_ok eqI_r R (W_S W (WS_await W.1 hZ)) (cm_C W C (c_await (by omega) W.1 hZ C.1)) (fun s R => dr2 (rm_R R (r_await hN2 W.1 hZ R.1)))
theorem st_move (hN2 : 2000 ≤ N) (on : Bool) : StpI (lwN eqI (fX11_move N 0 (sk_i on)) (fX12_move N 419 (sk_i on))) := by
  intro s hI
  obtain ⟨p, P, n, D, mv, nr, q, b, S, tl, T, fp, hi, S', C, R, W⟩ := hI
  have hZ := W.2.2.2.1
  exact gN_ok eqI_r R (W_S W (WS_move W.1 hZ)) (cm_C W C (c_move (by omega) W.1 hZ C.1)) (fun s R => dr2 (rm_R R (r_move hN2 W.1 hZ R.1)))
theorem st_sets (hN2 : 2000 ≤ N) (x : Int32) (on : Bool) : StpI (lwT N cvB exA (fX11_sets N 0 x (sk_i on)) (fX12_sets N 419 x (sk_i on))) := by
  intro s hI
  obtain ⟨p, P, n, D, mv, nr, q, b, S, tl, T, fp, hi, S', C, R, W⟩ := hI
  have hZ := W.2.2.2.1
  rcases rng x 2 (by omega) with ⟨w, hw, rfl, _⟩ | ⟨g1, g2, g3⟩
  · exact gT_ok R (W_S W (WS_sets hZ (by omega))) (cm_C W C (c_sets (by omega) W.1 hZ C.1 (by omega))) (fun s R => rm_R R (r_sets hN2 hZ R.1 (by omega)))
  · exact gT_ex (e := 1) (t := 1) (r := 0) W C R (c0_C (c_sets' g1)) ex1 (by omega) (fun s R => r1_R (r_sets' g1))
theorem st_clouds (hN2 : 2000 ≤ N) (x y : Int32) (on : Bool) : StpI (lwN eqI (fX11_clouds N 0 x y (sk_i on)) (fX12_clouds N 419 x y (sk_i on))) := by
  intro s hI
  obtain ⟨p, P, n, D, mv, nr, q, b, S, tl, T, fp, hi, S', C, R, W⟩ := hI
  have hZ := W.2.2.2.1
  have hD := W.1.2.2.2.1
  have bad : ((x < 0 ∨ (¬ x < 0 ∧ nI D ≤ x)) ∨ (∃ u, u < D ∧ x = nI u) ∧ ((y < 0 ∨ (¬ y < 0 ∧ nI D ≤ y)) ∨ (∃ v, v < D ∧ y = nI v) ∧ ¬ x ≤ y)) → (¬ (0 ≤ x ∧ x ≤ nI D - 1) ∨ (∃ u, u < D ∧ x = nI u) ∧ ¬ (x ≤ y ∧ y ≤ nI D - 1)) → ∃ s', Inv s' ∧ ∀ k, lwN eqI (fX11_clouds N 0 x y (sk_i on)) (fX12_clouds N 419 x y (sk_i on)) k (mk s) = k (mk s') := fun h1 h2 =>
    gN_ok eqI_r R (W_S W (WS_rf 1 hZ)) (cm_C W C (c_clouds' W.1 hZ C.1 h1)) (fun s R => dr2 (rm_R R (r_clouds' W.1 R.1 h2)))
  rcases rng x D (by omega) with ⟨u, hu, rfl, _⟩ | ⟨g1, g2, g3⟩
  · rcases rng y D (by omega) with ⟨v, hv, rfl, _⟩ | ⟨f1, f2, f3⟩
    · by_cases c : u ≤ v
      · exact gN_ok eqI_r R (W_S W (WS_clouds hZ)) (cm_C W C (c_clouds (by omega) W.1 hZ C.1 c hv)) (fun s R => dr2 (rm_R R (r_clouds hN2 W.1 hZ R.1 c hv)))
      · have c' : ¬ nI u ≤ nI v := nI_ge (by omega) (by omega)
        exact bad (Or.inr ⟨⟨u, hu, rfl⟩, Or.inr ⟨⟨v, hv, rfl⟩, c'⟩⟩) (Or.inr ⟨⟨u, hu, rfl⟩, fun z => c' z.1⟩)
    · exact bad (Or.inr ⟨⟨u, hu, rfl⟩, Or.inl f1⟩) (Or.inr ⟨⟨u, hu, rfl⟩, fun z => f2 ⟨Int32.le_trans (nI_le (a := 0) (Nat.zero_le _) (by omega)) z.1, z.2⟩⟩)
  · exact bad (Or.inl g1) (Or.inl g2)
theorem st_undo (hN2 : 2000 ≤ N) : StpI (lwN eqI (fX11_undo N 0) (fX12_undo N 419)) := by
  intro s hI
  obtain ⟨p, P, n, D, mv, nr, q, b, S, tl, T, fp, hi, S', C, R, W⟩ := hI
  have hZ := W.2.2.2.1
  exact gN_ok eqI_r R (W_S W (WS_undo hZ)) (cm_C W C (c_undo hZ W.1.1 C.1)) (fun s R => dr2 (rm_R R (r_undo (by omega) hZ R.1)))
theorem st_see (hN2 : 2000 ≤ N) (x y : Int32) (on : Bool) : StpI (lwT N Int32.toInt64 exA (fX11_see N 0 x y (sk_i on)) (fX12_see N 419 x y (sk_i on))) := by
  intro s hI
  obtain ⟨p, P, n, D, mv, nr, q, b, S, tl, T, fp, hi, S', C, R, W⟩ := hI
  have hn8 := W.1.1
  have hZ := W.2.2.2.1
  rcases rng x n (by omega) with ⟨k, hk, rfl, _⟩ | ⟨g1, g2, g3⟩
  · exact gT_ok R (W_S W (WS_see hZ hk)) (cm_C W C (c_see W.1 hZ C.1 hk)) (fun s R => rm_R R (r_see W.1 hZ R.1 hk))
  · exact gT_ex (e := 1) (t := 1) (r := 0) W C R (c0_C (c_see' C.1 g1)) ex1 (by omega) (fun s R => r1_R (r_see' W.1 R.1 g2))
theorem st_forget (hN2 : 2000 ≤ N) : StpI (lwN eqU (fX11_forget N 0) (fX12_forget N 419)) := by
  intro s hI
  obtain ⟨p, P, n, D, mv, nr, q, b, S, tl, T, fp, hi, S', C, R, W⟩ := hI
  have hZ := W.2.2.2.1
  exact gN_ok eqU_r R (W_S W (WS_forget hZ)) (cm_C W C (c_forget C.1 W.1.1 hZ.2.1)) (fun s R => dr2 (rm_R R (r_forget R.1)))
theorem st_image (hN2 : 2000 ≤ N) : StpI (lwN eqU (fX11_image N 0) (fX12_image N 419)) := by
  intro s hI
  obtain ⟨p, P, n, D, mv, nr, q, b, S, tl, T, fp, hi, S', C, R, W⟩ := hI
  have hZ := W.2.2.2.1
  have hp' : p = 2 ∨ p = 18 := C.1.1.1.1
  have W2 : WI P n D mv nr q b S tl T true S := ⟨W.1, W.2.1, W.2.2.1, hZ, W.2.2.2.2.1, W.2.2.2.2.2.1, fun _ => hZ⟩
  refine gN_ok (r := ()) (p2 := p) (fp2 := fp) eqU_r R W2 ?_ (fun s R => ?_)
  · obtain ⟨s1, a1, a2, a3, a4, a5⟩ := c_image (N := N) (by omega) hZ W.1.1 C.1 C.2.2.2.2.2.2.1
    have no : ∀ x j, (x = 0 ∧ ¬ j = 8) ∨ (1 ≤ x ∧ x < 34) → ¬ cI x j := fun x j hx g => by unfold cI at g; omega
    exact ⟨s1, a1, ⟨a2, (a5.2.1 _ _ (no _ _ (by omega))).trans C.2.1, (a5.1 _ _ (no _ _ (by omega))).trans C.2.2.1, ⟨(a5.1 _ _ (no _ _ (by omega))).trans C.2.2.2.1.1, fun j hj => (a5.1 _ _ (no _ _ (by omega))).trans (C.2.2.2.1.2 j hj)⟩, (a5.1 _ _ (no _ _ (by omega))).trans C.2.2.2.2.1, a4, a3.1, fun _ => a3⟩, Fr_m a5 cI_lo⟩
  · obtain ⟨s3, a1, a2, a3, a4, a5, a6⟩ := r_image (N := N) hN2 hZ R.1
    have no : ∀ x j, x = 434 ∨ (x = 419 ∧ (j = 16 ∨ j = 25)) → ¬ rI x j := fun x j hx g => by unfold rI at g; omega
    exact ⟨s3, a1, ⟨a3, ⟨(a6.1 _ _ (no _ _ (by omega))).trans R.2.1.1, fun j hj => (a6.1 _ _ (no _ _ (by omega))).trans (R.2.1.2 j hj)⟩, (a6.1 _ _ (no _ _ (by omega))).trans R.2.2.1, a5, fun _ => a4⟩, Fr_m a6 rI_hi⟩
theorem st_restore (hN2 : 2000 ≤ N) : StpI (lwN eqI (fX11_restore N 0) (fX12_restore N 419)) := by
  intro s hI
  obtain ⟨p, P, n, D, mv, nr, q, b, S, tl, T, fp, hi, S', C, R, W⟩ := hI
  cases hi with
  | true =>
    have hZ' := W.2.2.2.2.2.2 rfl
    exact gN_ok eqI_r R (W_S W hZ') (cm_C W C (c_restore (by omega) hZ' W.1.1 C.1 (C.2.2.2.2.2.2.2 rfl) C.2.2.2.2.2.1)) (fun s R => dr2 (rm_R R (r_restore hN2 hZ' R.1 (R.2.2.2.2 rfl) R.2.2.2.1)))
  | false =>
    exact gN_ok eqI_r R W (cq_C W C ⟨s, c_restore0 C.2.2.2.2.2.1, Fr_r _ _⟩) (fun s R => dr2 (rq_R R (r0_R (r_restore0 R.2.2.2.1))))
/-- the plan and the scene, where other cells change -/
theorem CM_p {s s' : sg} {p : Nat} {P : pln} {n D mv nr : Nat} {q : Nat → Int32} {b : Nat → Nat} {S : scn} {Q : Nat → Nat → Prop} (hn : n ≤ 8) (hna : S.2.2.1.1 ≤ 40) (h : CM s p P n D mv nr q b S) (f : Fr Q s s') (h0 : ¬ Q 0 3) (hp : ∀ x j, p ≤ x → x ≤ p + 15 → ¬ Q x j) (h37 : ∀ x j, 37 ≤ x → x < 207 → ¬ Q x j) : CM s' p P n D mv nr q b S := by
  obtain ⟨⟨⟨a1, a2, a3, a4⟩, a5⟩, a6⟩ := h
  exact ⟨⟨⟨a1, (f.2.1 _ _ h0).trans a2, CPl_fr a3 hn f (fun x j g1 g2 _ => hp x j g1 g2), SAt_fr a4 f (fun x j g1 g2 => h37 x j (by omega) (by omega))⟩, CRl_fr a5 f (hp _ _ (by omega) (by omega)) (fun j => hp _ _ (by omega) (by omega)) (fun j => hp _ _ (by omega) (by omega))⟩, ScC_fr a6 hna f (fun x j g1 g2 => h37 x j g1 (by omega))⟩
theorem fdT_lt {T : Nat → Nat} {tl : Nat} {x : Nat → Int32} (hT : ∀ j, j < tl → T j < 256) (j : Nat) : fdT T tl x j < 256 := by
  unfold fdT
  by_cases c : j < tl
  · rw [if_pos c]; exact hT j c
  · rw [if_neg c]; exact (byt_r _ _).2
theorem st_feed (hN2 : 2000 ≤ N) (a1 a2 a3 a4 a5 : Int32) : StpI (lwN eqI (fX11_feed N 0 a1 a2 a3 a4 a5) (fX12_feed N 419 a1 a2 a3 a4 a5)) := by
  intro s hI
  obtain ⟨p, P, n, D, mv, nr, q, b, S, tl, T, fp, hi, S', C, R, W⟩ := hI
  have htl := W.2.2.2.2.1
  have hp' : p = 2 ∨ p = 18 := C.1.1.1.1
  by_cases c : tl + 20 ≤ 700
  · have W2 : WI P n D mv nr q b S (tl + 20) (fdT T tl (x5 a1 a2 a3 a4 a5)) hi S' := ⟨W.1, W.2.1, W.2.2.1, W.2.2.2.1, c, fun j _ => fdT_lt W.2.2.2.2.2.1 j, W.2.2.2.2.2.2⟩
    refine gN_ok (r := nI (tl + 20)) (p2 := p) (fp2 := fp) eqI_r R W2 ?_ (fun s R => ?_)
    · obtain ⟨s1, b1, b2, b3⟩ := c_feed (N := N) (a := a1) (b := a2) (c := a3) (d := a4) (e := a5) (by omega) c C.2.2.2.1
      exact ⟨s1, b1, ⟨CM_p W.1.1 W.2.2.2.1.2.1 C.1 b3 (by omega) (fun x j g1 g2 => by omega) (fun x j g1 g2 => by omega), (b3.2.1 _ _ (by omega)).trans C.2.1, (b3.1 _ _ (by omega)).trans C.2.2.1, b2, (b3.1 _ _ (by omega)).trans C.2.2.2.2.1, (b3.1 _ _ (by omega)).trans C.2.2.2.2.2.1, Pm_fr C.2.2.2.2.2.2.1 b3 (fun j => by omega), fun e => ScC_fr (C.2.2.2.2.2.2.2 e) (W.2.2.2.2.2.2 e).2.1 b3 (fun x j g1 g2 => by omega)⟩, Fr_m b3 (fun x j g => by unfold loF; omega)⟩
    · obtain ⟨s3, b1, b2, b3, b4⟩ := r_feed (N := N) (a := a1) (b := a2) (c := a3) (d := a4) (e := a5) (by omega) c R.2.1
      have hM : RM s3 P nr q b (S.1, S.2.1, S.2.2) := RM_g R.1 b4 (fun x j g => by unfold rP at g; omega) (fun j hj => (b4.1 _ _ (by omega)).trans (R.1.1.1.2.1 j hj)) (fun m hm => (b4.1 _ _ (by omega)).trans (R.1.1.1.2.2 m hm))
      exact ⟨s3, b1, ⟨hM, b3, (b4.1 _ _ (by omega)).trans R.2.2.1, (b4.1 _ _ (by omega)).trans R.2.2.2.1, fun e => ImR_fr (R.2.2.2.2 e) b4 (fun x j g => by omega)⟩, Fr_m b4 (fun x j g => by unfold hiF; omega)⟩
  · exact gN_ok eqI_r R W (cq_C W C ⟨s, c_feed' htl (by omega) C.2.2.2.1, Fr_r _ _⟩) (fun s R => dr2 (rq_R R (r0_R (r_feed' htl (by omega) R.2.1))))
end SA
