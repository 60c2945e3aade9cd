/- needs: 85.inv -/
/-! each call keeps what holds: questions -/
theorem ex1 (c : mm_C) : exA 1 c = some (.inl (nI 1), c) := rfl
theorem ex0 (c : mm_C) : exB 0 c = some (.inl (nI 1), c) := rfl
theorem exc1 (c : mm_C) : exC 1 c = some (.inl (nI 1), c) := rfl
theorem exc0 (c : mm_C) : exC 0 c = some (.inl (nI 2), c) := rfl
theorem c_lasts1 {N : Nat} {s : sg} {x y z : Int32} (hz : z < 0 ∨ (¬ z < 0 ∧ nI 2 ≤ z)) : fX11_lasts N 0 x y z (mk s) = some (.inr 1, mk s) := by
  have h := c_reqWhat' (N := N) (s := s) (l := 1) hz (by omega)
  have h' : fX11_requireWhat N z (1 : Int32) (mk s) = some (.inr 1, mk s) := h
  unfold fX11_lasts bX11_lasts_0
  rw [h', cS_r]
theorem c_lasts2 {N w : Nat} {s : sg} {x y : Int32} (hw : w ≤ 1) (h : ¬ ((0 ≤ x ∧ x ≤ 10) ∧ (1 ≤ y ∧ y ≤ 9))) : fX11_lasts N 0 x y (nI w) (mk s) = some (.inr 0, mk s) := by
  have h1 : fX11_requireWhat N (nI w) (1 : Int32) (mk s) = some (.inl (), mk s) := c_reqWhat (l := 1) hw (by omega)
  unfold fX11_lasts bX11_lasts_0
  rw [h1, cS_l, c_reqTry' h, cS_r]
theorem r_lasts1 {N : Nat} {s : sg} {x y z : Int32} (hz : z < 0 ∨ (¬ z < 0 ∧ nI 2 ≤ z)) : fX12_lasts N 419 x y z (mk s) = some (.inl ((0 : Int32).toInt64), mk (sI (sI s 419 2 0) 419 2 (nI 1))) := by
  have e14 : bX12_lasts_14 N 419 (mk (sI s 419 2 0)) = some (.inl ((0 : Int32).toInt64), mk (sI (sI s 419 2 0) 419 2 (nI 1))) := by
    unfold bX12_lasts_14
    rw [cV12, m_fail, cS_l]
    rfl
  unfold fX12_lasts bX12_lasts_0
  rw [pI12 2 rfl, ob_s]
  rcases hz with c | ⟨c, c2⟩
  · rw [if_pos c, e14]
  · have c3 : ¬ z ≤ 1 := fun w => by
      rw [i32_le] at c2 w
      have e1 : (nI 2).toInt = 2 := by decide
      have e2 : (1 : Int32).toInt = 1 := by decide
      omega
    rw [if_neg c, if_neg c3, e14]
theorem r_lasts2 {N w : Nat} {s : sg} {x y : Int32} (hw : w ≤ 1) (h : ¬ ((0 ≤ x ∧ x ≤ 10) ∧ (1 ≤ y ∧ y ≤ 9))) : fX12_lasts N 419 x y (nI w) (mk s) = some (.inl ((0 : Int32).toInt64), mk (sI (sI s 419 2 0) 419 2 (nI 2))) := by
  have hs : sb ((0 ≤ x ∧ x ≤ 10) ∧ (1 ≤ y ∧ y ≤ 9)) = 0 := sb_neg h
  unfold fX12_lasts bX12_lasts_0
  rw [pI12 2 rfl, ob_s, if_neg (show ¬ nI w < 0 from nI_nlt (b := 0) (Nat.zero_le _) (by omega)), if_pos (show nI w ≤ (1 : Int32) from nI_le (b := 1) hw (by omega)), r_areC, cS_l, hs, if_neg (fun z => z rfl), cV12, m_fail, cS_l]
  rfl
section ST
variable {N : Nat}
theorem st_most (hN2 : 2000 ≤ N) (x : Int32) : StpI (lwT N Int32.toInt64 exA (fX11_most N 0 x) (fX12_most N 419 x)) := by
  intro s hI
  obtain ⟨p, P, n, D, mv, nr, q, b, S, tl, T, fp, hi, S', C, R, W⟩ := hI
  have hN1 : 1000 ≤ N := by omega
  have hn8 := W.1.1
  have hD := W.1.2.2.2.1
  have hWp := W.1
  have hZ := W.2.2.2.1.1
  have hQ := C.1.1.1
  have hRl := W.2.2.1
  rcases rng x (3) (by omega) with ⟨w, hw, rfl, _⟩ | ⟨g1, g2, g3⟩
  · exact gT_ok R W (cq_C W C (c_most hN1 hWp hZ hQ (by omega))) (fun s R => rq_R R (r_most hN1 hWp hZ R.1.1.1 (by omega)))
  · exact gT_ex (e := 1) (t := 1) (r := 0) W C R (c0_C (c_most' g1)) ex1 (by omega) (fun s R => r1_R (r_most_bad (fun ⟨w, h1, h2⟩ => g3 ⟨w, by omega, h2⟩)))
theorem st_shorter (hN2 : 2000 ≤ N) (x : Int32) : StpI (lwT N Int32.toInt64 exB (fX11_shorter N 0 x) (fX12_shorter N 419 x)) := by
  intro s hI
  obtain ⟨p, P, n, D, mv, nr, q, b, S, tl, T, fp, hi, S', C, R, W⟩ := hI
  have hN1 : 1000 ≤ N := by omega
  have hn8 := W.1.1
  have hD := W.1.2.2.2.1
  have hWp := W.1
  have hZ := W.2.2.2.1.1
  have hQ := C.1.1.1
  have hRl := W.2.2.1
  rcases rng x (481) (by omega) with ⟨w, hw, rfl, _⟩ | ⟨g1, g2, g3⟩
  · exact gT_ok R W (cq_C W C (c_shorter hN1 hWp hZ hQ (by omega))) (fun s R => rq_R R (r_shorter hN1 hWp hZ R.1.1.1 (by omega)))
  · exact gT_ex (e := 0) (t := 1) (r := 0) W C R (c0_C (c_shorter' g1)) ex0 (by omega) (fun s R => r1_R (r_shorter' (fun z => g2 z)))
theorem st_worth (hN2 : 2000 ≤ N) (x : Int32) : StpI (lwT N Int32.toInt64 exA (fX11_worth N 0 x) (fX12_worth N 419 x)) := by
  intro s hI
  obtain ⟨p, P, n, D, mv, nr, q, b, S, tl, T, fp, hi, S', C, R, W⟩ := hI
  have hN1 : 1000 ≤ N := by omega
  have hn8 := W.1.1
  have hD := W.1.2.2.2.1
  have hWp := W.1
  have hZ := W.2.2.2.1.1
  have hQ := C.1.1.1
  have hRl := W.2.2.1
  rcases rng x (2) (by omega) with ⟨w, hw, rfl, _⟩ | ⟨g1, g2, g3⟩
  · exact gT_ok R W (cq_C W C (c_worth hN1 hWp hZ hQ hw)) (fun s R => rq_R R (r_worth hN1 hWp hZ R.1.1.1 hw))
  · exact gT_ex (e := 1) (t := 1) (r := 0) W C R (c0_C (c_worth' g1)) ex1 (by omega) (fun s R => r1_R (r_worth' g1))
theorem st_hole (hN2 : 2000 ≤ N) (x : Int32) : StpI (lwT N Int32.toInt64 exA (fX11_hole N 0 x) (fX12_hole N 419 x)) := by
  intro s hI
  obtain ⟨p, P, n, D, mv, nr, q, b, S, tl, T, fp, hi, S', C, R, W⟩ := hI
  have hN1 : 1000 ≤ N := by omega
  have hn8 := W.1.1
  have hD := W.1.2.2.2.1
  have hWp := W.1
  have hZ := W.2.2.2.1.1
  have hQ := C.1.1.1
  have hRl := W.2.2.1
  rcases rng x (4) (by omega) with ⟨w, hw, rfl, _⟩ | ⟨g1, g2, g3⟩
  · exact gT_ok R W (cq_C W C (c_hole hN1 hQ hn8 hD (by omega))) (fun s R => rq_R R (r_hole hN1 hWp R.1.1.1 (by omega)))
  · exact gT_ex (e := 1) (t := 1) (r := 0) W C R (c0_C (c_hole' g1)) ex1 (by omega) (fun s R => r1_R (r_hole' (fun z => g2 z)))
theorem st_without (hN2 : 2000 ≤ N) (x : Int32) : StpI (lwT N Int32.toInt64 exA (fX11_without N 0 x) (fX12_without N 419 x)) := by
  intro s hI
  obtain ⟨p, P, n, D, mv, nr, q, b, S, tl, T, fp, hi, S', C, R, W⟩ := hI
  have hN1 : 1000 ≤ N := by omega
  have hn8 := W.1.1
  have hD := W.1.2.2.2.1
  have hWp := W.1
  have hZ := W.2.2.2.1.1
  have hQ := C.1.1.1
  have hRl := W.2.2.1
  rcases rng x (n) (by omega) with ⟨w, hw, rfl, _⟩ | ⟨g1, g2, g3⟩
  · exact gT_ok R W (cq_C W C (c_without hN1 hWp hZ hQ hw)) (fun s R => rq_R R (r_without hN1 hWp hZ R.1.1.1 hw))
  · exact gT_ex (e := 1) (t := 1) (r := 0) W C R (c0_C (c_without' hQ g1)) ex1 (by omega) (fun s R => r1_R (r_without' (by rw [R.1.1.1.1 0 0 (by omega) (by omega), hWp.2.1]; exact g2)))
theorem st_ready (hN2 : 2000 ≤ N) (x : Int32) : StpI (lwT N Int32.toInt64 exA (fX11_ready N 0 x) (fX12_ready N 419 x)) := by
  intro s hI
  obtain ⟨p, P, n, D, mv, nr, q, b, S, tl, T, fp, hi, S', C, R, W⟩ := hI
  have hN1 : 1000 ≤ N := by omega
  have hn8 := W.1.1
  have hD := W.1.2.2.2.1
  have hWp := W.1
  have hZ := W.2.2.2.1.1
  have hQ := C.1.1.1
  have hRl := W.2.2.1
  rcases rng x (D) (by omega) with ⟨w, hw, rfl, _⟩ | ⟨g1, g2, g3⟩
  · exact gT_ok R W (cq_C W C (c_ready hN1 hWp hZ hQ hw)) (fun s R => rq_R R (r_ready hN1 hWp R.1.1.1 hw))
  · exact gT_ex (e := 1) (t := 1) (r := 0) W C R (c0_C (c_ready' hQ g1)) ex1 (by omega) (fun s R => r1_R (r_ready' hWp R.1.1.1 g2))
theorem st_edge (hN2 : 2000 ≤ N) (x : Int32) : StpI (lwT N Int32.toInt64 exA (fX11_edge N 0 x) (fX12_edge N 419 x)) := by
  intro s hI
  obtain ⟨p, P, n, D, mv, nr, q, b, S, tl, T, fp, hi, S', C, R, W⟩ := hI
  have hN1 : 1000 ≤ N := by omega
  have hn8 := W.1.1
  have hD := W.1.2.2.2.1
  have hWp := W.1
  have hZ := W.2.2.2.1.1
  have hQ := C.1.1.1
  have hRl := W.2.2.1
  rcases rng x (D) (by omega) with ⟨w, hw, rfl, _⟩ | ⟨g1, g2, g3⟩
  · exact gT_ok R W (cq_C W C (c_edge hN1 hQ hD hn8 hw)) (fun s R => rq_R R (r_edge hN1 hWp R.1.1.1 hw))
  · exact gT_ex (e := 1) (t := 1) (r := 0) W C R (c0_C (c_edge' hQ g1)) ex1 (by omega) (fun s R => r1_R (r_edge' hWp R.1.1.1 g2))
theorem st_order (hN2 : 2000 ≤ N) (x : Int32) : StpI (lwT N Int32.toInt64 exA (fX11_order N 0 x) (fX12_order N 419 x)) := by
  intro s hI
  obtain ⟨p, P, n, D, mv, nr, q, b, S, tl, T, fp, hi, S', C, R, W⟩ := hI
  have hN1 : 1000 ≤ N := by omega
  have hn8 := W.1.1
  have hD := W.1.2.2.2.1
  have hWp := W.1
  have hZ := W.2.2.2.1.1
  have hQ := C.1.1.1
  have hRl := W.2.2.1
  have hol := aOrd_len (K := S.2.1) hWp hZ
  have hpc := pcf_8 (MS n (TT P S.1 S.2.1 D n mv (2 ^ n - 1)))
  rcases rng x ((aOrd P S.1 S.2.1 n D mv).length) (by omega) with ⟨w, hw, rfl, _⟩ | ⟨g1, g2, g3⟩
  · exact gT_ok R W (cq_C W C (c_order hN1 hWp hZ hQ hw)) (fun s R => rq_R R (r_order hN1 hWp hZ R.1.1.1 hw))
  · exact gT_ex (e := 1) (t := 1) (r := 0) W C R (c_order' hN1 hWp hZ hQ g1) ex1 (by omega) (fun s R => r_order' hN1 hWp hZ R.1.1.1 g2)
theorem st_count (hN2 : 2000 ≤ N) (x : Int32) : StpI (lwT N Int32.toInt64 exA (fX11_count N 0 x) (fX12_count N 419 x)) := by
  intro s hI
  obtain ⟨p, P, n, D, mv, nr, q, b, S, tl, T, fp, hi, S', C, R, W⟩ := hI
  have hN1 : 1000 ≤ N := by omega
  have hn8 := W.1.1
  have hD := W.1.2.2.2.1
  have hWp := W.1
  have hZ := W.2.2.2.1.1
  have hQ := C.1.1.1
  have hRl := W.2.2.1
  rcases rng x (19) (by omega) with ⟨w, hw, rfl, _⟩ | ⟨g1, g2, g3⟩
  · exact gT_ok R W (cq_C W C (⟨s, c_count W.2.2.2.1 C.1 C.2.2.1 C.2.2.2.1.1 hw, Fr_r _ _⟩)) (fun s R => rq_R R (r0_R (r_count hWp R.1 R.2.1.1 hw)))
  · exact gT_ex (e := 1) (t := 1) (r := 0) W C R (c0_C (c_count' g3)) ex1 (by omega) (fun s R => r1_R (r_count' g3))
theorem st_holes (hN2 : 2000 ≤ N) (x : Int32) : StpI (lwT N Int32.toInt64 exB (fX11_holes N 0 x) (fX12_holes N 419 x)) := by
  intro s hI
  obtain ⟨p, P, n, D, mv, nr, q, b, S, tl, T, fp, hi, S', C, R, W⟩ := hI
  have hN1 : 1000 ≤ N := by omega
  have hn8 := W.1.1
  have hD := W.1.2.2.2.1
  have hWp := W.1
  have hZ := W.2.2.2.1.1
  have hQ := C.1.1.1
  have hRl := W.2.2.1
  by_cases c : 1 ≤ x ∧ x ≤ 480
  · obtain ⟨j, hj, rfl⟩ := (in_rng (b := 480) (by omega)).mp ⟨Int32.le_trans (by decide) c.1, c.2⟩
    have h1 : 1 ≤ j := Nat.le_of_not_lt fun z => nI_ge (b := 1) z (by omega) c.1
    obtain ⟨w, rfl⟩ : ∃ w, j = w + 1 := ⟨j - 1, by omega⟩
    exact gT_ok R W (cq_C W C (c_holes hN1 hQ hn8 hD (by omega))) (fun s R => rq_R R (r_holes hN1 hWp R.1.1.1 (by omega)))
  · exact gT_ex (e := 0) (t := 1) (r := 0) W C R (c0_C (c_holes' c)) ex0 (by omega) (fun s R => r1_R (r_holes' c))
theorem st_soonest (hN2 : 2000 ≤ N) (x : Int32) : StpI (lwT N Int32.toInt64 exB (fX11_soonest N 0 x) (fX12_soonest N 419 x)) := by
  intro s hI
  obtain ⟨p, P, n, D, mv, nr, q, b, S, tl, T, fp, hi, S', C, R, W⟩ := hI
  have hN1 : 1000 ≤ N := by omega
  have hn8 := W.1.1
  have hD := W.1.2.2.2.1
  have hWp := W.1
  have hZ := W.2.2.2.1.1
  have hQ := C.1.1.1
  have hRl := W.2.2.1
  by_cases c : ∃ w, w < 2 ^ n ∧ x = nI w ∧ w &&& hN S.1 = 0
  · obtain ⟨w, hw, rfl, hd⟩ := c
    exact gT_ok R W (cq_C W C (c_soonest hN1 hWp hZ hQ hw hd)) (fun s R => rq_R R (r_soonest hN1 hWp hZ R.1.1.1 hw hd))
  · exact gT_ex (e := 0) (t := 1) (r := 0) W C R (c0_C (c_soonest' hWp hZ hQ c)) ex0 (by omega) (fun s R => r_soonest' hWp hZ R.1.1.1 c)
theorem st_shot (hN2 : 2000 ≤ N) (x y : Int32) : StpI (lwT N Int32.toInt64 exA (fX11_shot N 0 x y) (fX12_shot N 419 x y)) := by
  intro s hI
  obtain ⟨p, P, n, D, mv, nr, q, b, S, tl, T, fp, hi, S', C, R, W⟩ := hI
  have hN1 : 1000 ≤ N := by omega
  have hn8 := W.1.1
  have hD := W.1.2.2.2.1
  have hWp := W.1
  have hZ := W.2.2.2.1.1
  have hQ := C.1.1.1
  have hRl := W.2.2.1
  rcases rng x (n) (by omega) with ⟨k, hk, rfl, _⟩ | ⟨g1, g2, g3⟩
  · rcases rng y (8) (by omega) with ⟨w, hw, rfl, _⟩ | ⟨f1, f2, f3⟩
    · exact gT_ok R W (cq_C W C (⟨s, c_shot hQ hn8 hk hw, Fr_r _ _⟩)) (fun s R => rq_R R (r_shot hWp R.1.1.1 hk hw))
    · exact gT_ex (e := 1) (t := 1) (r := 0) W C R (c0_C (c_shot' hQ hn8 (Or.inr ⟨⟨k, hk, rfl⟩, f3⟩))) ex1 (by omega) (fun s R => r1_R (r_shot' hWp R.1.1.1 (Or.inr ⟨⟨k, hk, rfl⟩, f3⟩)))
  · exact gT_ex (e := 1) (t := 1) (r := 0) W C R (c0_C (c_shot' hQ hn8 (Or.inl g1))) ex1 (by omega) (fun s R => r1_R (r_shot' hWp R.1.1.1 (Or.inl g2)))
theorem st_sky (hN2 : 2000 ≤ N) (x y : Int32) : StpI (lwT N Int32.toInt64 exA (fX11_sky N 0 x y) (fX12_sky N 419 x y)) := by
  intro s hI
  obtain ⟨p, P, n, D, mv, nr, q, b, S, tl, T, fp, hi, S', C, R, W⟩ := hI
  have hN1 : 1000 ≤ N := by omega
  have hn8 := W.1.1
  have hD := W.1.2.2.2.1
  have hWp := W.1
  have hZ := W.2.2.2.1.1
  have hQ := C.1.1.1
  have hRl := W.2.2.1
  rcases rng x (D) (by omega) with ⟨k, hk, rfl, _⟩ | ⟨g1, g2, g3⟩
  · rcases rng y (2) (by omega) with ⟨w, hw, rfl, _⟩ | ⟨f1, f2, f3⟩
    · exact gT_ok R W (cq_C W C (c_sky hN1 hQ hD hk (by omega))) (fun s R => rq_R R (r_sky hN1 hWp R.1.1.1 hk (by omega)))
    · exact gT_ex (e := 1) (t := 1) (r := 0) W C R (c0_C (c_sky' hQ hD (Or.inr ⟨⟨k, hk, rfl⟩, f1⟩))) ex1 (by omega) (fun s R => r1_R (r_sky' hWp R.1.1.1 (Or.inr ⟨⟨k, hk, rfl⟩, f1⟩)))
  · exact gT_ex (e := 1) (t := 1) (r := 0) W C R (c0_C (c_sky' hQ hD (Or.inl g1))) ex1 (by omega) (fun s R => r1_R (r_sky' hWp R.1.1.1 (Or.inl g2)))
theorem st_why (hN2 : 2000 ≤ N) (x y : Int32) : StpI (lwT N Int32.toInt64 exA (fX11_why N 0 x y) (fX12_why N 419 x y)) := by
  intro s hI
  obtain ⟨p, P, n, D, mv, nr, q, b, S, tl, T, fp, hi, S', C, R, W⟩ := hI
  have hN1 : 1000 ≤ N := by omega
  have hn8 := W.1.1
  have hD := W.1.2.2.2.1
  have hWp := W.1
  have hZ := W.2.2.2.1.1
  have hQ := C.1.1.1
  have hRl := W.2.2.1
  rcases rng x (n) (by omega) with ⟨k, hk, rfl, _⟩ | ⟨g1, g2, g3⟩
  · rcases rng y (D) (by omega) with ⟨w, hw, rfl, _⟩ | ⟨f1, f2, f3⟩
    · exact gT_ok R W (cq_C W C (c_why hN1 hWp hZ hQ hk hw)) (fun s R => rq_R R (r_whyQ hN1 hWp R.1.1.1 hk hw))
    · exact gT_ex (e := 1) (t := 1) (r := 0) W C R (c0_C (c_why' hQ hn8 (Or.inr ⟨⟨k, hk, rfl⟩, f1⟩))) ex1 (by omega) (fun s R => r1_R (r_whyQ' hWp R.1.1.1 (Or.inr ⟨⟨k, hk, rfl⟩, f2⟩)))
  · exact gT_ex (e := 1) (t := 1) (r := 0) W C R (c0_C (c_why' hQ hn8 (Or.inl g1))) ex1 (by omega) (fun s R => r1_R (r_whyQ' hWp R.1.1.1 (Or.inl g2)))
theorem st_chances (hN2 : 2000 ≤ N) (x y : Int32) : StpI (lwT N Int32.toInt64 exA (fX11_chances N 0 x y) (fX12_chances N 419 x y)) := by
  intro s hI
  obtain ⟨p, P, n, D, mv, nr, q, b, S, tl, T, fp, hi, S', C, R, W⟩ := hI
  have hN1 : 1000 ≤ N := by omega
  have hn8 := W.1.1
  have hD := W.1.2.2.2.1
  have hWp := W.1
  have hZ := W.2.2.2.1.1
  have hQ := C.1.1.1
  have hRl := W.2.2.1
  rcases rng x (n) (by omega) with ⟨k, hk, rfl, _⟩ | ⟨g1, g2, g3⟩
  · rcases rng y (2) (by omega) with ⟨w, hw, rfl, _⟩ | ⟨f1, f2, f3⟩
    · exact gT_ok R W (cq_C W C (c_chances hN1 hWp hZ hQ hk (by omega))) (fun s R => rq_R R (r_chances hN1 hWp hZ R.1.1.1 hk (by omega)))
    · exact gT_ex (e := 1) (t := 1) (r := 0) W C R (c0_C (c_chances' hQ hn8 (Or.inr ⟨⟨k, hk, rfl⟩, f1⟩))) ex1 (by omega) (fun s R => r1_R (r_chances' hWp R.1.1.1 (Or.inr ⟨⟨k, hk, rfl⟩, f1⟩)))
  · exact gT_ex (e := 1) (t := 1) (r := 0) W C R (c0_C (c_chances' hQ hn8 (Or.inl g1))) ex1 (by omega) (fun s R => r1_R (r_chances' hWp R.1.1.1 (Or.inl g2)))
theorem st_day (hN2 : 2000 ≤ N) (x y : Int32) : StpI (lwT N Int32.toInt64 exA (fX11_day N 0 x y) (fX12_day N 419 x y)) := by
  intro s hI
  obtain ⟨p, P, n, D, mv, nr, q, b, S, tl, T, fp, hi, S', C, R, W⟩ := hI
  have hN1 : 1000 ≤ N := by omega
  have hn8 := W.1.1
  have hD := W.1.2.2.2.1
  have hWp := W.1
  have hZ := W.2.2.2.1.1
  have hQ := C.1.1.1
  have hRl := W.2.2.1
  by_cases hx : isRl nr x
  · rcases rng y (5) (by omega) with ⟨w, hw, rfl, _⟩ | ⟨f1, f2, f3⟩
    · exact gT_ok R W (cq_C W C (c_day hN1 hWp hZ hRl hx C.1.1 (by omega))) (fun s R => rs_R R (r_day hN1 hWp hZ hRl hx R.1.1 (by omega)))
    · exact gT_ex (e := 1) (t := 1) (r := 0) W C R (c0_C (c_day' hRl C.1.1 (Or.inr ⟨hx, f1⟩))) ex1 (by omega) (fun s R => r1_R (r_day' hRl R.1.1 (Or.inr ⟨hx, fun z => f2 z⟩)))
  · exact gT_ex (e := 1) (t := 1) (r := 0) W C R (c0_C (c_day' hRl C.1.1 (Or.inl hx))) ex1 (by omega) (fun s R => r1_R (r_day' hRl R.1.1 (Or.inl hx)))
theorem st_idle (hN2 : 2000 ≤ N) (x y : Int32) : StpI (lwT N Int32.toInt64 exA (fX11_idle N 0 x y) (fX12_idle N 419 x y)) := by
  intro s hI
  obtain ⟨p, P, n, D, mv, nr, q, b, S, tl, T, fp, hi, S', C, R, W⟩ := hI
  have hN1 : 1000 ≤ N := by omega
  have hn8 := W.1.1
  have hD := W.1.2.2.2.1
  have hWp := W.1
  have hZ := W.2.2.2.1.1
  have hQ := C.1.1.1
  have hRl := W.2.2.1
  by_cases hx : isRl nr x
  · rcases rng y (2) (by omega) with ⟨w, hw, rfl, _⟩ | ⟨f1, f2, f3⟩
    · exact gT_ok R W (cq_C W C (c_idle hN1 hWp hZ hRl hx C.1.1 (by omega))) (fun s R => rs_R R (r_idle hN1 hWp hZ hRl hx R.1.1 (by omega)))
    · exact gT_ex (e := 1) (t := 1) (r := 0) W C R (c0_C (c_idle' hRl C.1.1 (Or.inr ⟨hx, f1⟩))) ex1 (by omega) (fun s R => r1_R (r_idle' hRl R.1.1 (Or.inr ⟨hx, f1⟩)))
  · exact gT_ex (e := 1) (t := 1) (r := 0) W C R (c0_C (c_idle' hRl C.1.1 (Or.inl hx))) ex1 (by omega) (fun s R => r1_R (r_idle' hRl R.1.1 (Or.inl hx)))
theorem st_week (hN2 : 2000 ≤ N) (x z y v : Int32) : StpI (lwT N Int32.toInt64 exC (fX11_week N 0 x z y v) (fX12_week N 419 x z y v)) := by
  intro s hI
  obtain ⟨p, P, n, D, mv, nr, q, b, S, tl, T, fp, hi, S', C, R, W⟩ := hI
  have hN1 : 1000 ≤ N := by omega
  have hn8 := W.1.1
  have hD := W.1.2.2.2.1
  have hWp := W.1
  have hZ := W.2.2.2.1.1
  have hQ := C.1.1.1
  have hRl := W.2.2.1
  by_cases hx : isRl nr x
  · rcases rng v 3 (by omega) with ⟨w, hw, rfl, _⟩ | ⟨f1, f2, f3⟩
    · by_cases hy : 0 ≤ y ∧ y ≤ nI 10
      · obtain ⟨k, hk, rfl⟩ := (in_rng (b := 10) (by omega)).mp hy
        exact gT_ok R W (cq_C W C (c_week hN1 hWp hZ hRl hx (by omega) hk C.1.1 z)) (fun s R => rs_R R (r_week hN1 hWp hZ hRl hx (by omega) hk R.1.1 z))
      · exact gT_ex (e := 0) (t := 2) (r := 0) W C R (c0_C (c_week2 hRl C.1.1 hx (by omega) hy)) exc0 (by omega) (fun s R => r1_R (r_week2 hRl R.1.1 hx (by omega) hy))
    · exact gT_ex (e := 1) (t := 1) (r := 0) W C R (c0_C (c_week' hRl C.1.1 (Or.inr ⟨hx, f1⟩))) exc1 (by omega) (fun s R => r1_R (r_week' hRl R.1.1 (Or.inr ⟨hx, fun z => f2 z⟩)))
  · exact gT_ex (e := 1) (t := 1) (r := 0) W C R (c0_C (c_week' hRl C.1.1 (Or.inl hx))) exc1 (by omega) (fun s R => r1_R (r_week' hRl R.1.1 (Or.inl hx)))
theorem try_r {x y : Int32} (h : (0 ≤ x ∧ x ≤ 10) ∧ (1 ≤ y ∧ y ≤ 9)) : ∃ t k, t ≤ 10 ∧ k < 9 ∧ x = nI t ∧ y = nI (k + 1) := by
  obtain ⟨t, ht, e1⟩ := (in_rng (b := 10) (by omega)).mp h.1
  obtain ⟨j, hj, e2⟩ := (in_rng (x := y) (b := 9) (by omega)).mp ⟨Int32.le_trans (by decide) h.2.1, h.2.2⟩
  have h1 : 1 ≤ j := Nat.le_of_not_lt fun z => nI_ge (b := 1) z (by omega) (by rw [← e2]; exact h.2.1)
  exact ⟨t, j - 1, ht, by omega, e1, by rw [e2, show j - 1 + 1 = j by omega]⟩
theorem st_lasts (hN2 : 2000 ≤ N) (x y z : Int32) : StpI (lwT N (fun r => r) exC (fX11_lasts N 0 x y z) (fX12_lasts N 419 x y z)) := by
  intro s hI
  obtain ⟨p, P, n, D, mv, nr, q, b, S, tl, T, fp, hi, S', C, R, W⟩ := hI
  have hN1 : 1000 ≤ N := by omega
  have hn8 := W.1.1
  have hD := W.1.2.2.2.1
  have hWp := W.1
  have hZ := W.2.2.2.1.1
  have hQ := C.1.1.1
  have hRl := W.2.2.1
  rcases rng z 2 (by omega) with ⟨w, hw, rfl, _⟩ | ⟨f1, f2, f3⟩
  · by_cases c : (0 ≤ x ∧ x ≤ 10) ∧ (1 ≤ y ∧ y ≤ 9)
    · obtain ⟨t, k, ht, hk, rfl, rfl⟩ := try_r c
      exact gT_ok R W (cq_C W C ⟨s, c_lasts hN1 ht hk (by omega), Fr_r _ _⟩) (fun s R => rq_R R (r0_R (r_lasts hN1 ht hk (by omega))))
    · exact gT_ex (e := 0) (t := 2) W C R (c0_C (c_lasts2 (by omega) c)) exc0 (by omega) (fun s R => r1_R (r_lasts2 (by omega) c))
  · exact gT_ex (e := 1) (t := 1) W C R (c0_C (c_lasts1 f1)) exc1 (by omega) (fun s R => r1_R (r_lasts1 f1))
theorem st_trial (hN2 : 2000 ≤ N) (x y z v : Int32) : StpI (lwT N (fun r => r) exB (fX11_trial N 0 x y z v) (fX12_trial N 419 x y z v)) := by
  intro s hI
  obtain ⟨p, P, n, D, mv, nr, q, b, S, tl, T, fp, hi, S', C, R, W⟩ := hI
  have hN1 : 1000 ≤ N := by omega
  have hn8 := W.1.1
  have hD := W.1.2.2.2.1
  have hWp := W.1
  have hZ := W.2.2.2.1.1
  have hQ := C.1.1.1
  have hRl := W.2.2.1
  by_cases c : ((0 ≤ x ∧ x ≤ 10) ∧ (1 ≤ y ∧ y ≤ 9)) ∧ (0 ≤ z ∧ z ≤ 999) ∧ (0 ≤ v ∧ v ≤ 99)
  · obtain ⟨t, k, ht, hk, rfl, rfl⟩ := try_r c.1
    obtain ⟨a, ha, rfl⟩ := (in_rng (b := 999) (by omega)).mp c.2.1
    obtain ⟨b', hb, rfl⟩ := (in_rng (b := 99) (by omega)).mp c.2.2
    exact gT_ok R W (cq_C W C ⟨s, c_trial hN1 ht hk ha hb, Fr_r _ _⟩) (fun s R => rq_R R (r0_R (r_trial hN1 ht hk ha hb)))
  · exact gT_ex (e := 0) (t := 1) W C R (c0_C (c_trial' c)) ex0 (by omega) (fun s R => r1_R (r_trial' c))
theorem st_best (hN2 : 2000 ≤ N) : StpI (lwN eqI (fX11_best N 0) (fX12_best N 419)) := by
  intro s hI
  obtain ⟨p, P, n, D, mv, nr, q, b, S, tl, T, fp, hi, S', C, R, W⟩ := hI
  have hN1 : 1000 ≤ N := by omega
  have hn8 := W.1.1
  have hD := W.1.2.2.2.1
  have hWp := W.1
  have hZ := W.2.2.2.1.1
  have hQ := C.1.1.1
  have hRl := W.2.2.1
  refine gN_ok eqI_r R W (cq_C W C (c_best hN1 hWp hZ hRl C.1.1)) (fun s R => ?_)
  obtain ⟨s3, a1, a2, a3⟩ := r_best hN1 hWp hZ hRl R.1.1
  exact ⟨s3, a1, RI_s R a3 a2, Fr_m a3 rS_hi⟩
theorem st_regret (hN2 : 2000 ≤ N) : StpI (lwN eqI (fX11_regret N 0) (fX12_regret N 419)) := by
  intro s hI
  obtain ⟨p, P, n, D, mv, nr, q, b, S, tl, T, fp, hi, S', C, R, W⟩ := hI
  have hN1 : 1000 ≤ N := by omega
  have hn8 := W.1.1
  have hD := W.1.2.2.2.1
  have hWp := W.1
  have hZ := W.2.2.2.1.1
  have hQ := C.1.1.1
  have hRl := W.2.2.1
  refine gN_ok eqI_r R W (cq_C W C (c_regret hN1 hWp hZ hRl C.1.1)) (fun s R => ?_)
  obtain ⟨s3, a1, a2, a3⟩ := r_regret hN1 hWp hZ hRl R.1.1
  exact ⟨s3, a1, RI_s R a3 a2, Fr_m a3 rS_hi⟩
theorem st_which (hN2 : 2000 ≤ N) : StpI (lwN eqI (fX11_which N 0) (fX12_which N 419)) := by
  intro s hI
  obtain ⟨p, P, n, D, mv, nr, q, b, S, tl, T, fp, hi, S', C, R, W⟩ := hI
  have hN1 : 1000 ≤ N := by omega
  have hn8 := W.1.1
  have hD := W.1.2.2.2.1
  have hWp := W.1
  have hZ := W.2.2.2.1.1
  have hQ := C.1.1.1
  have hRl := W.2.2.1
  refine gN_ok eqI_r R W (cq_C W C (c_which hN1 hWp hZ hRl W.2.2.2.1.2.2.2 C.1.1 C.1.2.2.2.2.1)) (fun s R => ?_)
  obtain ⟨s3, a1, a2, a3⟩ := r_which hN1 hWp hZ hRl W.2.2.2.1.2.2.2 R.1.1 R.1.2.2.1
  exact ⟨s3, a1, RI_s R a3 a2, Fr_m a3 rS_hi⟩
theorem st_inside (hN2 : 2000 ≤ N) : StpI (lwN eqI (fX11_inside N 0) (fX12_inside N 419)) := by
  intro s hI
  obtain ⟨p, P, n, D, mv, nr, q, b, S, tl, T, fp, hi, S', C, R, W⟩ := hI
  have hN1 : 1000 ≤ N := by omega
  have hn8 := W.1.1
  have hD := W.1.2.2.2.1
  have hWp := W.1
  have hZ := W.2.2.2.1.1
  have hQ := C.1.1.1
  have hRl := W.2.2.1
  obtain ⟨s1, x, a1, a2, a3⟩ := c_inside (N := N) hN1 hWp hZ hQ
  refine gN_ok eqI_r R W (cq_C W C ⟨s1, a1, a3⟩) (fun s R => ?_)
  obtain ⟨s3, y, b1, b2, b3⟩ := r_inside (N := N) hN1 hWp W.2.1 hZ R.1.1.1
  rw [aIns_fun b2 a2] at b1
  exact ⟨s3, b1, RI_q R b3, Fr_m b3 rQ_hi⟩
theorem st_fault (hN2 : 2000 ≤ N) : StpI (lwN eqI (fX11_fault N 0) (fX12_fault N 419)) := by
  intro s hI
  obtain ⟨p, P, n, D, mv, nr, q, b, S, tl, T, fp, hi, S', C, R, W⟩ := hI
  have hN1 : 1000 ≤ N := by omega
  have hn8 := W.1.1
  have hD := W.1.2.2.2.1
  have hWp := W.1
  have hZ := W.2.2.2.1.1
  have hQ := C.1.1.1
  have hRl := W.2.2.1
  have h2 := c_fault (N := N) (s := s)
  rw [C.2.2.2.2.1] at h2
  refine gN_ok eqI_r R W (cq_C W C ⟨s, h2, Fr_r _ _⟩) (fun s R => ?_)
  have h3 := r_fault (N := N) (s := s)
  rw [R.2.2.1] at h3
  have f : Fr rQ s (sI s 419 2 0) := Fr_sI (by unfold rQ; omega)
  exact ⟨_, h3, RI_q R f, Fr_m f rQ_hi⟩
end ST
