/- needs: 59.image -/
/-! count and fault, both sides -/
def aCount (P : pln) (n D mv nr : Nat) (tl : Int32) (S : scn) : Nat → Int32
  | 0 => nI n
  | 1 => nI D
  | 2 => nI mv
  | 3 => P 0 3
  | 4 => nI nr
  | 5 => S.1 0
  | 6 => S.1 1
  | 7 => S.1 2
  | 8 => S.1 4
  | 9 => S.1 5
  | 10 => S.1 6
  | 11 => S.1 3
  | 12 => mnI 100 (P 0 3 * S.1 3)
  | 13 => nI S.2.2.1.1
  | 14 => nI S.2.2.2.1.1
  | 15 => tl
  | 16 => S.2.2.2.2 0
  | 17 => S.2.2.2.2 1
  | _ => S.2.2.2.2 2
section CN
variable {N : Nat} {s : sg} {P : pln} {n D mv k m nr w u v p : Nat} {q : Nat → Int32} {b : Nat → Nat} {S S' : scn} {on : Bool} {tl : Int32}
theorem c_count (Z : WS n D S) (h : CM s p P n D mv nr q b S) (hc : s.1 p 2 = P 0 3) (ht : s.1 0 1 = tl) (hw : w < 19) : fX11_count N 0 (nI w) (mk s) = some (.inl (aCount P n D mv nr tl S w), mk s) := by
  have hpO := plA_O h.1.1.1
  have g6 : gR (mk s) 0 11 6 = some 37 := gR_k ⟨rfl, rfl, by decide⟩
  have g0 : gR (mk s) 37 5 0 = some 38 := gR_k ⟨rfl, rfl, by decide⟩
  have g7 : gR (mk s) 37 5 7 = some 46 := gR_k ⟨rfl, rfl, by decide⟩
  have g3 : gR (mk s) 0 11 3 = some p := by
    rw [gR_k (s := s) (a := 0) (ci := 11) (j := 3) ⟨rfl, rfl, by decide⟩]
    exact congrArg some h.1.1.2.1
  have g38 : ∀ j, fI 9 j = true → gI (mk s) 38 9 j = some (s.1 38 j) := fun j hj => gI_k ⟨rfl, hj, by decide⟩
  have g37 : ∀ j, fI 5 j = true → gI (mk s) 37 5 j = some (s.1 37 j) := fun j hj => gI_k ⟨rfl, hj, by decide⟩
  have gp : ∀ j, fI 3 j = true → gI (mk s) p 3 j = some (s.1 p j) := fun j hj => gI_k ⟨hpO.1, hj, by decide⟩
  have gt : gI (mk s) 0 11 1 = some tl := by rw [← ht]; exact gI_k ⟨rfl, rfl, by decide⟩
  have h46 : ∀ (j : Int32), inB j 3 = true → aI (mk s) 46 j = some (s.1 46 j.toNatClampNeg) := fun j hj => aI_k ⟨rfl, hj⟩
  obtain ⟨k0, k1, k2, k3, k4, k5, k6, _⟩ := h.1.1.2.2.2
  obtain ⟨c0, c1, c3, _⟩ := h.1.1.2.2.1
  obtain ⟨h1, h2, h3, h4, h5⟩ := h.2
  have gr : gR (mk s) p 3 8 = some (p + 4) := by
    rw [gR_k (s := s) (a := p) (ci := 3) (j := 8) ⟨hpO.1, rfl, by decide⟩]
    rfl
  have gn : gI (mk s) (p + 4) 4 0 = some (nI nr) := by
    have hk4 : kc (p + 4) = 4 := by rcases h.1.1.1 with rfl | rfl <;> rfl
    have := gI_k (s := s) (a := p + 4) (ci := 4) (j := 0) ⟨hk4, rfl, by decide⟩
    rw [h.1.2.1] at this
    exact this
  unfold fX11_count bX11_count_0
  rw [g6, ob_s, g0, ob_s]
  rcases (show w = 0 ∨ w = 1 ∨ w = 2 ∨ w = 3 ∨ w = 4 ∨ w = 5 ∨ w = 6 ∨ w = 7 ∨ w = 8 ∨ w = 9 ∨ w = 10 ∨ w = 11 ∨ w = 12 ∨ w = 13 ∨ w = 14 ∨ w = 15 ∨ w = 16 ∨ w = 17 ∨ w = 18 by omega) with rfl | rfl | rfl | rfl | rfl | rfl | rfl | rfl | rfl | rfl | rfl | rfl | rfl | rfl | rfl | rfl | rfl | rfl | rfl
  · rw [if_pos (show nI 0 = (0 : Int32) by decide), g3, ob_s, gp 3 rfl, ob_s, c3]; rfl
  · rw [if_neg (show ¬ nI 1 = (0 : Int32) by decide), if_pos (show nI 1 = (1 : Int32) by decide), g3, ob_s, gp 0 rfl, ob_s, c0]; rfl
  · rw [if_neg (show ¬ nI 2 = (0 : Int32) by decide), if_neg (show ¬ nI 2 = (1 : Int32) by decide), if_pos (show nI 2 = (2 : Int32) by decide), g3, ob_s, gp 1 rfl, ob_s, c1]; rfl
  · rw [if_neg (show ¬ nI 3 = (0 : Int32) by decide), if_neg (show ¬ nI 3 = (1 : Int32) by decide), if_neg (show ¬ nI 3 = (2 : Int32) by decide), if_pos (show nI 3 = (3 : Int32) by decide), g3, ob_s, gp 2 rfl, ob_s, hc]; rfl
  · rw [if_neg (show ¬ nI 4 = (0 : Int32) by decide), if_neg (show ¬ nI 4 = (1 : Int32) by decide), if_neg (show ¬ nI 4 = (2 : Int32) by decide), if_neg (show ¬ nI 4 = (3 : Int32) by decide), if_pos (show nI 4 = (4 : Int32) by decide), g3, ob_s, gr, ob_s, gn, ob_s]; rfl
  · rw [if_neg (show ¬ nI 5 = (0 : Int32) by decide), if_neg (show ¬ nI 5 = (1 : Int32) by decide), if_neg (show ¬ nI 5 = (2 : Int32) by decide), if_neg (show ¬ nI 5 = (3 : Int32) by decide), if_neg (show ¬ nI 5 = (4 : Int32) by decide), if_pos (show nI 5 = (5 : Int32) by decide), g38 0 rfl, ob_s, k0]; rfl
  · rw [if_neg (show ¬ nI 6 = (0 : Int32) by decide), if_neg (show ¬ nI 6 = (1 : Int32) by decide), if_neg (show ¬ nI 6 = (2 : Int32) by decide), if_neg (show ¬ nI 6 = (3 : Int32) by decide), if_neg (show ¬ nI 6 = (4 : Int32) by decide), if_neg (show ¬ nI 6 = (5 : Int32) by decide), if_pos (show nI 6 = (6 : Int32) by decide), g38 1 rfl, ob_s, k1]
    show _ = some (Sum.inl (S.1 1), mk s)
    rcases Z.1.2.1 with g | g
    · rw [g, if_pos (by decide)]
    · rw [g, if_neg (fun g => g rfl)]
  · rw [if_neg (show ¬ nI 7 = (0 : Int32) by decide), if_neg (show ¬ nI 7 = (1 : Int32) by decide), if_neg (show ¬ nI 7 = (2 : Int32) by decide), if_neg (show ¬ nI 7 = (3 : Int32) by decide), if_neg (show ¬ nI 7 = (4 : Int32) by decide), if_neg (show ¬ nI 7 = (5 : Int32) by decide), if_neg (show ¬ nI 7 = (6 : Int32) by decide), if_pos (show nI 7 = (7 : Int32) by decide), g38 2 rfl, ob_s, k2]; rfl
  · rw [if_neg (show ¬ nI 8 = (0 : Int32) by decide), if_neg (show ¬ nI 8 = (1 : Int32) by decide), if_neg (show ¬ nI 8 = (2 : Int32) by decide), if_neg (show ¬ nI 8 = (3 : Int32) by decide), if_neg (show ¬ nI 8 = (4 : Int32) by decide), if_neg (show ¬ nI 8 = (5 : Int32) by decide), if_neg (show ¬ nI 8 = (6 : Int32) by decide), if_neg (show ¬ nI 8 = (7 : Int32) by decide), if_pos (show nI 8 = (8 : Int32) by decide), g38 3 rfl, ob_s, k4]; rfl
  · rw [if_neg (show ¬ nI 9 = (0 : Int32) by decide), if_neg (show ¬ nI 9 = (1 : Int32) by decide), if_neg (show ¬ nI 9 = (2 : Int32) by decide), if_neg (show ¬ nI 9 = (3 : Int32) by decide), if_neg (show ¬ nI 9 = (4 : Int32) by decide), if_neg (show ¬ nI 9 = (5 : Int32) by decide), if_neg (show ¬ nI 9 = (6 : Int32) by decide), if_neg (show ¬ nI 9 = (7 : Int32) by decide), if_neg (show ¬ nI 9 = (8 : Int32) by decide), if_pos (show nI 9 = (9 : Int32) by decide), g38 5 rfl, ob_s, k5]
    show _ = some (Sum.inl (S.1 5), mk s)
    rcases Z.1.2.2.2.1 with g | g
    · rw [g, if_pos rfl]
    · rw [g, if_neg (by decide)]
  · rw [if_neg (show ¬ nI 10 = (0 : Int32) by decide), if_neg (show ¬ nI 10 = (1 : Int32) by decide), if_neg (show ¬ nI 10 = (2 : Int32) by decide), if_neg (show ¬ nI 10 = (3 : Int32) by decide), if_neg (show ¬ nI 10 = (4 : Int32) by decide), if_neg (show ¬ nI 10 = (5 : Int32) by decide), if_neg (show ¬ nI 10 = (6 : Int32) by decide), if_neg (show ¬ nI 10 = (7 : Int32) by decide), if_neg (show ¬ nI 10 = (8 : Int32) by decide), if_neg (show ¬ nI 10 = (9 : Int32) by decide), if_pos (show nI 10 = (10 : Int32) by decide), g38 6 rfl, ob_s, k6]
    show _ = some (Sum.inl (S.1 6), mk s)
    rcases Z.1.2.2.2.2 with g | g
    · rw [g, if_pos rfl]
    · rw [g, if_neg (by decide)]
  · rw [if_neg (show ¬ nI 11 = (0 : Int32) by decide), if_neg (show ¬ nI 11 = (1 : Int32) by decide), if_neg (show ¬ nI 11 = (2 : Int32) by decide), if_neg (show ¬ nI 11 = (3 : Int32) by decide), if_neg (show ¬ nI 11 = (4 : Int32) by decide), if_neg (show ¬ nI 11 = (5 : Int32) by decide), if_neg (show ¬ nI 11 = (6 : Int32) by decide), if_neg (show ¬ nI 11 = (7 : Int32) by decide), if_neg (show ¬ nI 11 = (8 : Int32) by decide), if_neg (show ¬ nI 11 = (9 : Int32) by decide), if_neg (show ¬ nI 11 = (10 : Int32) by decide), if_pos (show nI 11 = (11 : Int32) by decide), g38 4 rfl, ob_s, k3]; rfl
  · rw [if_neg (show ¬ nI 12 = (0 : Int32) by decide), if_neg (show ¬ nI 12 = (1 : Int32) by decide), if_neg (show ¬ nI 12 = (2 : Int32) by decide), if_neg (show ¬ nI 12 = (3 : Int32) by decide), if_neg (show ¬ nI 12 = (4 : Int32) by decide), if_neg (show ¬ nI 12 = (5 : Int32) by decide), if_neg (show ¬ nI 12 = (6 : Int32) by decide), if_neg (show ¬ nI 12 = (7 : Int32) by decide), if_neg (show ¬ nI 12 = (8 : Int32) by decide), if_neg (show ¬ nI 12 = (9 : Int32) by decide), if_neg (show ¬ nI 12 = (10 : Int32) by decide), if_neg (show ¬ nI 12 = (11 : Int32) by decide), if_pos (show nI 12 = (12 : Int32) by decide), g3, ob_s, gp 2 rfl, ob_s, g38 4 rfl, ob_s, hc, k3]; rfl
  · rw [if_neg (show ¬ nI 13 = (0 : Int32) by decide), if_neg (show ¬ nI 13 = (1 : Int32) by decide), if_neg (show ¬ nI 13 = (2 : Int32) by decide), if_neg (show ¬ nI 13 = (3 : Int32) by decide), if_neg (show ¬ nI 13 = (4 : Int32) by decide), if_neg (show ¬ nI 13 = (5 : Int32) by decide), if_neg (show ¬ nI 13 = (6 : Int32) by decide), if_neg (show ¬ nI 13 = (7 : Int32) by decide), if_neg (show ¬ nI 13 = (8 : Int32) by decide), if_neg (show ¬ nI 13 = (9 : Int32) by decide), if_neg (show ¬ nI 13 = (10 : Int32) by decide), if_neg (show ¬ nI 13 = (11 : Int32) by decide), if_neg (show ¬ nI 13 = (12 : Int32) by decide), if_pos (show nI 13 = (13 : Int32) by decide), ob_s, g37 2 rfl, ob_s, h3.1]; rfl
  · rw [if_neg (show ¬ nI 14 = (0 : Int32) by decide), if_neg (show ¬ nI 14 = (1 : Int32) by decide), if_neg (show ¬ nI 14 = (2 : Int32) by decide), if_neg (show ¬ nI 14 = (3 : Int32) by decide), if_neg (show ¬ nI 14 = (4 : Int32) by decide), if_neg (show ¬ nI 14 = (5 : Int32) by decide), if_neg (show ¬ nI 14 = (6 : Int32) by decide), if_neg (show ¬ nI 14 = (7 : Int32) by decide), if_neg (show ¬ nI 14 = (8 : Int32) by decide), if_neg (show ¬ nI 14 = (9 : Int32) by decide), if_neg (show ¬ nI 14 = (10 : Int32) by decide), if_neg (show ¬ nI 14 = (11 : Int32) by decide), if_neg (show ¬ nI 14 = (12 : Int32) by decide), if_neg (show ¬ nI 14 = (13 : Int32) by decide), if_pos (show nI 14 = (14 : Int32) by decide), ob_s, g37 6 rfl, ob_s, h4.1]; rfl
  · rw [if_neg (show ¬ nI 15 = (0 : Int32) by decide), if_neg (show ¬ nI 15 = (1 : Int32) by decide), if_neg (show ¬ nI 15 = (2 : Int32) by decide), if_neg (show ¬ nI 15 = (3 : Int32) by decide), if_neg (show ¬ nI 15 = (4 : Int32) by decide), if_neg (show ¬ nI 15 = (5 : Int32) by decide), if_neg (show ¬ nI 15 = (6 : Int32) by decide), if_neg (show ¬ nI 15 = (7 : Int32) by decide), if_neg (show ¬ nI 15 = (8 : Int32) by decide), if_neg (show ¬ nI 15 = (9 : Int32) by decide), if_neg (show ¬ nI 15 = (10 : Int32) by decide), if_neg (show ¬ nI 15 = (11 : Int32) by decide), if_neg (show ¬ nI 15 = (12 : Int32) by decide), if_neg (show ¬ nI 15 = (13 : Int32) by decide), if_neg (show ¬ nI 15 = (14 : Int32) by decide), if_pos (show nI 15 = (15 : Int32) by decide), gt, ob_s]; rfl
  · rw [if_neg (show ¬ nI 16 = (0 : Int32) by decide), if_neg (show ¬ nI 16 = (1 : Int32) by decide), if_neg (show ¬ nI 16 = (2 : Int32) by decide), if_neg (show ¬ nI 16 = (3 : Int32) by decide), if_neg (show ¬ nI 16 = (4 : Int32) by decide), if_neg (show ¬ nI 16 = (5 : Int32) by decide), if_neg (show ¬ nI 16 = (6 : Int32) by decide), if_neg (show ¬ nI 16 = (7 : Int32) by decide), if_neg (show ¬ nI 16 = (8 : Int32) by decide), if_neg (show ¬ nI 16 = (9 : Int32) by decide), if_neg (show ¬ nI 16 = (10 : Int32) by decide), if_neg (show ¬ nI 16 = (11 : Int32) by decide), if_neg (show ¬ nI 16 = (12 : Int32) by decide), if_neg (show ¬ nI 16 = (13 : Int32) by decide), if_neg (show ¬ nI 16 = (14 : Int32) by decide), if_neg (show ¬ nI 16 = (15 : Int32) by decide), if_pos (show nI 16 = (16 : Int32) by decide), ob_s, g7, ob_s, h46 0 (by decide), ob_s, nc_0, h5 0 (by omega)]; rfl
  · rw [if_neg (show ¬ nI 17 = (0 : Int32) by decide), if_neg (show ¬ nI 17 = (1 : Int32) by decide), if_neg (show ¬ nI 17 = (2 : Int32) by decide), if_neg (show ¬ nI 17 = (3 : Int32) by decide), if_neg (show ¬ nI 17 = (4 : Int32) by decide), if_neg (show ¬ nI 17 = (5 : Int32) by decide), if_neg (show ¬ nI 17 = (6 : Int32) by decide), if_neg (show ¬ nI 17 = (7 : Int32) by decide), if_neg (show ¬ nI 17 = (8 : Int32) by decide), if_neg (show ¬ nI 17 = (9 : Int32) by decide), if_neg (show ¬ nI 17 = (10 : Int32) by decide), if_neg (show ¬ nI 17 = (11 : Int32) by decide), if_neg (show ¬ nI 17 = (12 : Int32) by decide), if_neg (show ¬ nI 17 = (13 : Int32) by decide), if_neg (show ¬ nI 17 = (14 : Int32) by decide), if_neg (show ¬ nI 17 = (15 : Int32) by decide), if_neg (show ¬ nI 17 = (16 : Int32) by decide), if_pos (show nI 17 = (17 : Int32) by decide), ob_s, g7, ob_s, h46 1 (by decide), ob_s, nc_1, h5 1 (by omega)]; rfl
  · rw [if_neg (show ¬ nI 18 = (0 : Int32) by decide), if_neg (show ¬ nI 18 = (1 : Int32) by decide), if_neg (show ¬ nI 18 = (2 : Int32) by decide), if_neg (show ¬ nI 18 = (3 : Int32) by decide), if_neg (show ¬ nI 18 = (4 : Int32) by decide), if_neg (show ¬ nI 18 = (5 : Int32) by decide), if_neg (show ¬ nI 18 = (6 : Int32) by decide), if_neg (show ¬ nI 18 = (7 : Int32) by decide), if_neg (show ¬ nI 18 = (8 : Int32) by decide), if_neg (show ¬ nI 18 = (9 : Int32) by decide), if_neg (show ¬ nI 18 = (10 : Int32) by decide), if_neg (show ¬ nI 18 = (11 : Int32) by decide), if_neg (show ¬ nI 18 = (12 : Int32) by decide), if_neg (show ¬ nI 18 = (13 : Int32) by decide), if_neg (show ¬ nI 18 = (14 : Int32) by decide), if_neg (show ¬ nI 18 = (15 : Int32) by decide), if_neg (show ¬ nI 18 = (16 : Int32) by decide), if_neg (show ¬ nI 18 = (17 : Int32) by decide), if_pos (show nI 18 = (18 : Int32) by decide), ob_s, g7, ob_s, h46 2 (by decide), ob_s, nc_2, h5 2 (by omega)]; rfl
theorem c_count' {x : Int32} (hx : ¬ ∃ w, w < 19 ∧ x = nI w) : fX11_count N 0 x (mk s) = some (.inr 1, mk s) := by
  have g6 : gR (mk s) 0 11 6 = some 37 := gR_k ⟨rfl, rfl, by decide⟩
  have g0 : gR (mk s) 37 5 0 = some 38 := gR_k ⟨rfl, rfl, by decide⟩
  have e : ∀ w, w < 19 → ¬ x = nI w := fun w hw q => hx ⟨w, hw, q⟩
  unfold fX11_count bX11_count_0
  rw [g6, ob_s, g0, ob_s, if_neg (show ¬ x = 0 from e 0 (by omega)), if_neg (show ¬ x = 1 from e 1 (by omega)), if_neg (show ¬ x = 2 from e 2 (by omega)), if_neg (show ¬ x = 3 from e 3 (by omega)), if_neg (show ¬ x = 4 from e 4 (by omega)), if_neg (show ¬ x = 5 from e 5 (by omega)), if_neg (show ¬ x = 6 from e 6 (by omega)), if_neg (show ¬ x = 7 from e 7 (by omega)), if_neg (show ¬ x = 8 from e 8 (by omega)), if_neg (show ¬ x = 9 from e 9 (by omega)), if_neg (show ¬ x = 10 from e 10 (by omega)), if_neg (show ¬ x = 11 from e 11 (by omega)), if_neg (show ¬ x = 12 from e 12 (by omega)), if_neg (show ¬ x = 13 from e 13 (by omega)), if_neg (show ¬ x = 14 from e 14 (by omega)), if_neg (show ¬ x = 15 from e 15 (by omega)), if_neg (show ¬ x = 16 from e 16 (by omega)), if_neg (show ¬ x = 17 from e 17 (by omega)), if_neg (show ¬ x = 18 from e 18 (by omega))]
theorem c_fault : fX11_fault N 0 (mk s) = some (.inl (s.1 0 2), mk s) := by
  have g : gI (mk s) 0 11 2 = some (s.1 0 2) := gI_k ⟨rfl, rfl, by decide⟩
  unfold fX11_fault bX11_fault_0
  rw [g, ob_s]
theorem r_fault : fX12_fault N 419 (mk s) = some (.inl (s.1 419 25), mk (sI s 419 2 0)) := by
  unfold fX12_fault bX12_fault_0
  rw [pI12 2 rfl, ob_s, gI12 25 rfl, ob_s, sI_1, if_neg (by omega)]
theorem r_count (W : Wp P n D mv) (h : RM s P nr q b S) (ht : s.1 419 16 = tl) (hw : w < 19) : fX12_count N 419 (nI w) (mk s) = some (.inl (aCount P n D mv nr tl S w), mk (sI s 419 2 0)) := by
  obtain ⟨hm1, z1, _⟩ := RM_0 h
  have kt : (sI s 419 2 0).1 419 16 = tl := by rw [sI_1, if_neg (by omega)]; exact ht
  unfold fX12_count bX12_count_0
  rw [pI12 2 rfl, ob_s]
  generalize sI s 419 2 0 = s1 at hm1 z1 kt
  have t0 : s1.1 422 0 = nI n := (hm1.1.1.1 0 0 (by omega) (by omega)).trans W.2.1
  have t1 : s1.1 422 1 = nI D := (hm1.1.1.1 0 1 (by omega) (by omega)).trans W.2.2.2.2.1
  have t2 : s1.1 422 2 = nI mv := (hm1.1.1.1 0 2 (by omega) (by omega)).trans W.2.2.2.2.2.2.1
  have t3 : s1.1 422 3 = P 0 3 := hm1.1.1.1 0 3 (by omega) (by omega)
  have t4 : s1.1 422 4 = nI nr := hm1.1.2.2
  have k : ∀ j, j < 15 → s1.1 435 j = S.1 j := hm1.1.1.2.1
  have a435 : ∀ (j : Int32), inB j 15 = true → aI (mk s1) 435 j = some (s1.1 435 j.toNatClampNeg) := fun j hj => aI_k ⟨rfl, hj⟩
  have a422 : ∀ (j : Nat), j < 8 → bX12_count_96 N 419 (nI j) (mk s1) = some (.inl (s1.1 422 j), mk s1) := fun j hj => by
    have ij : inB (nI j) 16 = true := inA_nI (by omega) (by omega)
    unfold bX12_count_96
    rw [gR12 3 422 rfl rfl, ob_s, aI_k ⟨rfl, ij⟩, ob_s, nI_clamp (by omega)]
  have a433 : ∀ (j : Nat), j < 3 → bX12_count_187 N 419 (nI (16 + j)) (mk s1) = some (.inl (S.2.2.2.2 j), mk s1) := fun j hj => by
    have ij : inB (nI j) 3 = true := inA_nI (by omega) (by omega)
    unfold bX12_count_187
    rw [gR12 14 433 rfl rfl, ob_s, show nI (16 + j) - 16 = nI j by
      have := nI_sub (a := 16 + j) (b := 16) (by omega)
      rw [show 16 + j - 16 = j by omega] at this
      exact this, aI_k ⟨rfl, ij⟩, ob_s, nI_clamp (by omega), hm1.2.2.2 j hj]
  rcases (show w = 0 ∨ w = 1 ∨ w = 2 ∨ w = 3 ∨ w = 4 ∨ w = 5 ∨ w = 6 ∨ w = 7 ∨ w = 8 ∨ w = 9 ∨ w = 10 ∨ w = 11 ∨ w = 12 ∨ w = 13 ∨ w = 14 ∨ w = 15 ∨ w = 16 ∨ w = 17 ∨ w = 18 by omega) with rfl | rfl | rfl | rfl | rfl | rfl | rfl | rfl | rfl | rfl | rfl | rfl | rfl | rfl | rfl | rfl | rfl | rfl | rfl
  · rw [if_pos (show nI 0 = (0 : Int32) by decide), a422 0 (by omega), t0]; rfl
  · rw [if_neg (show ¬ nI 1 = (0 : Int32) by decide), if_pos (show nI 1 = (1 : Int32) by decide), a422 1 (by omega), t1]; rfl
  · rw [if_neg (show ¬ nI 2 = (0 : Int32) by decide), if_neg (show ¬ nI 2 = (1 : Int32) by decide), if_pos (show nI 2 = (2 : Int32) by decide), a422 2 (by omega), t2]; rfl
  · rw [if_neg (show ¬ nI 3 = (0 : Int32) by decide), if_neg (show ¬ nI 3 = (1 : Int32) by decide), if_neg (show ¬ nI 3 = (2 : Int32) by decide), if_pos (show nI 3 = (3 : Int32) by decide), a422 3 (by omega), t3]; rfl
  · rw [if_neg (show ¬ nI 4 = (0 : Int32) by decide), if_neg (show ¬ nI 4 = (1 : Int32) by decide), if_neg (show ¬ nI 4 = (2 : Int32) by decide), if_neg (show ¬ nI 4 = (3 : Int32) by decide), if_pos (show nI 4 = (4 : Int32) by decide), a422 4 (by omega), t4]; rfl
  · rw [if_neg (show ¬ nI 5 = (0 : Int32) by decide), if_neg (show ¬ nI 5 = (1 : Int32) by decide), if_neg (show ¬ nI 5 = (2 : Int32) by decide), if_neg (show ¬ nI 5 = (3 : Int32) by decide), if_neg (show ¬ nI 5 = (4 : Int32) by decide), if_pos (show nI 5 = (5 : Int32) by decide), gR12 26 435 rfl rfl, ob_s, a435 0 (by decide), ob_s, nc_0, k 0 (by omega)]; rfl
  · rw [if_neg (show ¬ nI 6 = (0 : Int32) by decide), if_neg (show ¬ nI 6 = (1 : Int32) by decide), if_neg (show ¬ nI 6 = (2 : Int32) by decide), if_neg (show ¬ nI 6 = (3 : Int32) by decide), if_neg (show ¬ nI 6 = (4 : Int32) by decide), if_neg (show ¬ nI 6 = (5 : Int32) by decide), if_pos (show nI 6 = (6 : Int32) by decide), gR12 26 435 rfl rfl, ob_s, a435 1 (by decide), ob_s, nc_1, k 1 (by omega)]; rfl
  · rw [if_neg (show ¬ nI 7 = (0 : Int32) by decide), if_neg (show ¬ nI 7 = (1 : Int32) by decide), if_neg (show ¬ nI 7 = (2 : Int32) by decide), if_neg (show ¬ nI 7 = (3 : Int32) by decide), if_neg (show ¬ nI 7 = (4 : Int32) by decide), if_neg (show ¬ nI 7 = (5 : Int32) by decide), if_neg (show ¬ nI 7 = (6 : Int32) by decide), if_pos (show nI 7 = (7 : Int32) by decide), gR12 26 435 rfl rfl, ob_s, a435 2 (by decide), ob_s, nc_2, k 2 (by omega)]; rfl
  · rw [if_neg (show ¬ nI 8 = (0 : Int32) by decide), if_neg (show ¬ nI 8 = (1 : Int32) by decide), if_neg (show ¬ nI 8 = (2 : Int32) by decide), if_neg (show ¬ nI 8 = (3 : Int32) by decide), if_neg (show ¬ nI 8 = (4 : Int32) by decide), if_neg (show ¬ nI 8 = (5 : Int32) by decide), if_neg (show ¬ nI 8 = (6 : Int32) by decide), if_neg (show ¬ nI 8 = (7 : Int32) by decide), if_pos (show nI 8 = (8 : Int32) by decide), gR12 26 435 rfl rfl, ob_s, a435 4 (by decide), ob_s, nc_4, k 4 (by omega)]; rfl
  · rw [if_neg (show ¬ nI 9 = (0 : Int32) by decide), if_neg (show ¬ nI 9 = (1 : Int32) by decide), if_neg (show ¬ nI 9 = (2 : Int32) by decide), if_neg (show ¬ nI 9 = (3 : Int32) by decide), if_neg (show ¬ nI 9 = (4 : Int32) by decide), if_neg (show ¬ nI 9 = (5 : Int32) by decide), if_neg (show ¬ nI 9 = (6 : Int32) by decide), if_neg (show ¬ nI 9 = (7 : Int32) by decide), if_neg (show ¬ nI 9 = (8 : Int32) by decide), if_pos (show nI 9 = (9 : Int32) by decide), gR12 26 435 rfl rfl, ob_s, a435 5 (by decide), ob_s, nc_5, k 5 (by omega)]; rfl
  · rw [if_neg (show ¬ nI 10 = (0 : Int32) by decide), if_neg (show ¬ nI 10 = (1 : Int32) by decide), if_neg (show ¬ nI 10 = (2 : Int32) by decide), if_neg (show ¬ nI 10 = (3 : Int32) by decide), if_neg (show ¬ nI 10 = (4 : Int32) by decide), if_neg (show ¬ nI 10 = (5 : Int32) by decide), if_neg (show ¬ nI 10 = (6 : Int32) by decide), if_neg (show ¬ nI 10 = (7 : Int32) by decide), if_neg (show ¬ nI 10 = (8 : Int32) by decide), if_neg (show ¬ nI 10 = (9 : Int32) by decide), if_pos (show nI 10 = (10 : Int32) by decide), gR12 26 435 rfl rfl, ob_s, a435 6 (by decide), ob_s, nc_6, k 6 (by omega)]; rfl
  · rw [if_neg (show ¬ nI 11 = (0 : Int32) by decide), if_neg (show ¬ nI 11 = (1 : Int32) by decide), if_neg (show ¬ nI 11 = (2 : Int32) by decide), if_neg (show ¬ nI 11 = (3 : Int32) by decide), if_neg (show ¬ nI 11 = (4 : Int32) by decide), if_neg (show ¬ nI 11 = (5 : Int32) by decide), if_neg (show ¬ nI 11 = (6 : Int32) by decide), if_neg (show ¬ nI 11 = (7 : Int32) by decide), if_neg (show ¬ nI 11 = (8 : Int32) by decide), if_neg (show ¬ nI 11 = (9 : Int32) by decide), if_neg (show ¬ nI 11 = (10 : Int32) by decide), if_pos (show nI 11 = (11 : Int32) by decide), gR12 26 435 rfl rfl, ob_s, a435 3 (by decide), ob_s, nc_3, k 3 (by omega)]; rfl
  · rw [if_neg (show ¬ nI 12 = (0 : Int32) by decide), if_neg (show ¬ nI 12 = (1 : Int32) by decide), if_neg (show ¬ nI 12 = (2 : Int32) by decide), if_neg (show ¬ nI 12 = (3 : Int32) by decide), if_neg (show ¬ nI 12 = (4 : Int32) by decide), if_neg (show ¬ nI 12 = (5 : Int32) by decide), if_neg (show ¬ nI 12 = (6 : Int32) by decide), if_neg (show ¬ nI 12 = (7 : Int32) by decide), if_neg (show ¬ nI 12 = (8 : Int32) by decide), if_neg (show ¬ nI 12 = (9 : Int32) by decide), if_neg (show ¬ nI 12 = (10 : Int32) by decide), if_neg (show ¬ nI 12 = (11 : Int32) by decide), if_pos (show nI 12 = (12 : Int32) by decide), gR12 3 422 rfl rfl, ob_s, aI_k (i := 3) ⟨rfl, rfl⟩, ob_s, gR12 26 435 rfl rfl, ob_s, a435 3 (by decide), ob_s, nc_3, k 3 (by omega), t3]; rfl
  · rw [if_neg (show ¬ nI 13 = (0 : Int32) by decide), if_neg (show ¬ nI 13 = (1 : Int32) by decide), if_neg (show ¬ nI 13 = (2 : Int32) by decide), if_neg (show ¬ nI 13 = (3 : Int32) by decide), if_neg (show ¬ nI 13 = (4 : Int32) by decide), if_neg (show ¬ nI 13 = (5 : Int32) by decide), if_neg (show ¬ nI 13 = (6 : Int32) by decide), if_neg (show ¬ nI 13 = (7 : Int32) by decide), if_neg (show ¬ nI 13 = (8 : Int32) by decide), if_neg (show ¬ nI 13 = (9 : Int32) by decide), if_neg (show ¬ nI 13 = (10 : Int32) by decide), if_neg (show ¬ nI 13 = (11 : Int32) by decide), if_neg (show ¬ nI 13 = (12 : Int32) by decide), if_pos (show nI 13 = (13 : Int32) by decide), gI12 28 rfl, ob_s, hm1.2.1.1]; rfl
  · rw [if_neg (show ¬ nI 14 = (0 : Int32) by decide), if_neg (show ¬ nI 14 = (1 : Int32) by decide), if_neg (show ¬ nI 14 = (2 : Int32) by decide), if_neg (show ¬ nI 14 = (3 : Int32) by decide), if_neg (show ¬ nI 14 = (4 : Int32) by decide), if_neg (show ¬ nI 14 = (5 : Int32) by decide), if_neg (show ¬ nI 14 = (6 : Int32) by decide), if_neg (show ¬ nI 14 = (7 : Int32) by decide), if_neg (show ¬ nI 14 = (8 : Int32) by decide), if_neg (show ¬ nI 14 = (9 : Int32) by decide), if_neg (show ¬ nI 14 = (10 : Int32) by decide), if_neg (show ¬ nI 14 = (11 : Int32) by decide), if_neg (show ¬ nI 14 = (12 : Int32) by decide), if_neg (show ¬ nI 14 = (13 : Int32) by decide), if_pos (show nI 14 = (14 : Int32) by decide), gI12 29 rfl, ob_s, hm1.2.2.1.1]; rfl
  · rw [if_neg (show ¬ nI 15 = (0 : Int32) by decide), if_neg (show ¬ nI 15 = (1 : Int32) by decide), if_neg (show ¬ nI 15 = (2 : Int32) by decide), if_neg (show ¬ nI 15 = (3 : Int32) by decide), if_neg (show ¬ nI 15 = (4 : Int32) by decide), if_neg (show ¬ nI 15 = (5 : Int32) by decide), if_neg (show ¬ nI 15 = (6 : Int32) by decide), if_neg (show ¬ nI 15 = (7 : Int32) by decide), if_neg (show ¬ nI 15 = (8 : Int32) by decide), if_neg (show ¬ nI 15 = (9 : Int32) by decide), if_neg (show ¬ nI 15 = (10 : Int32) by decide), if_neg (show ¬ nI 15 = (11 : Int32) by decide), if_neg (show ¬ nI 15 = (12 : Int32) by decide), if_neg (show ¬ nI 15 = (13 : Int32) by decide), if_neg (show ¬ nI 15 = (14 : Int32) by decide), if_pos (show nI 15 = (15 : Int32) by decide), gI12 16 rfl, ob_s, kt]; rfl
  · rw [if_neg (show ¬ nI 16 = (0 : Int32) by decide), if_neg (show ¬ nI 16 = (1 : Int32) by decide), if_neg (show ¬ nI 16 = (2 : Int32) by decide), if_neg (show ¬ nI 16 = (3 : Int32) by decide), if_neg (show ¬ nI 16 = (4 : Int32) by decide), if_neg (show ¬ nI 16 = (5 : Int32) by decide), if_neg (show ¬ nI 16 = (6 : Int32) by decide), if_neg (show ¬ nI 16 = (7 : Int32) by decide), if_neg (show ¬ nI 16 = (8 : Int32) by decide), if_neg (show ¬ nI 16 = (9 : Int32) by decide), if_neg (show ¬ nI 16 = (10 : Int32) by decide), if_neg (show ¬ nI 16 = (11 : Int32) by decide), if_neg (show ¬ nI 16 = (12 : Int32) by decide), if_neg (show ¬ nI 16 = (13 : Int32) by decide), if_neg (show ¬ nI 16 = (14 : Int32) by decide), if_neg (show ¬ nI 16 = (15 : Int32) by decide), if_pos (show nI 16 = (16 : Int32) by decide), a433 0 (by omega)]; rfl
  · rw [if_neg (show ¬ nI 17 = (0 : Int32) by decide), if_neg (show ¬ nI 17 = (1 : Int32) by decide), if_neg (show ¬ nI 17 = (2 : Int32) by decide), if_neg (show ¬ nI 17 = (3 : Int32) by decide), if_neg (show ¬ nI 17 = (4 : Int32) by decide), if_neg (show ¬ nI 17 = (5 : Int32) by decide), if_neg (show ¬ nI 17 = (6 : Int32) by decide), if_neg (show ¬ nI 17 = (7 : Int32) by decide), if_neg (show ¬ nI 17 = (8 : Int32) by decide), if_neg (show ¬ nI 17 = (9 : Int32) by decide), if_neg (show ¬ nI 17 = (10 : Int32) by decide), if_neg (show ¬ nI 17 = (11 : Int32) by decide), if_neg (show ¬ nI 17 = (12 : Int32) by decide), if_neg (show ¬ nI 17 = (13 : Int32) by decide), if_neg (show ¬ nI 17 = (14 : Int32) by decide), if_neg (show ¬ nI 17 = (15 : Int32) by decide), if_neg (show ¬ nI 17 = (16 : Int32) by decide), if_pos (show nI 17 = (17 : Int32) by decide), a433 1 (by omega)]; rfl
  · rw [if_neg (show ¬ nI 18 = (0 : Int32) by decide), if_neg (show ¬ nI 18 = (1 : Int32) by decide), if_neg (show ¬ nI 18 = (2 : Int32) by decide), if_neg (show ¬ nI 18 = (3 : Int32) by decide), if_neg (show ¬ nI 18 = (4 : Int32) by decide), if_neg (show ¬ nI 18 = (5 : Int32) by decide), if_neg (show ¬ nI 18 = (6 : Int32) by decide), if_neg (show ¬ nI 18 = (7 : Int32) by decide), if_neg (show ¬ nI 18 = (8 : Int32) by decide), if_neg (show ¬ nI 18 = (9 : Int32) by decide), if_neg (show ¬ nI 18 = (10 : Int32) by decide), if_neg (show ¬ nI 18 = (11 : Int32) by decide), if_neg (show ¬ nI 18 = (12 : Int32) by decide), if_neg (show ¬ nI 18 = (13 : Int32) by decide), if_neg (show ¬ nI 18 = (14 : Int32) by decide), if_neg (show ¬ nI 18 = (15 : Int32) by decide), if_neg (show ¬ nI 18 = (16 : Int32) by decide), if_neg (show ¬ nI 18 = (17 : Int32) by decide), if_pos (show nI 18 = (18 : Int32) by decide), a433 2 (by omega)]; rfl
theorem r_count' {x : Int32} (hx : ¬ ∃ w, w < 19 ∧ x = nI w) : fX12_count N 419 x (mk s) = some (.inl 0, mk (sI (sI s 419 2 0) 419 2 1)) := by
  have e : ∀ w, w < 19 → ¬ x = nI w := fun w hw q => hx ⟨w, hw, q⟩
  unfold fX12_count bX12_count_0
  rw [pI12 2 rfl, ob_s, if_neg (show ¬ x = 0 from e 0 (by omega)), if_neg (show ¬ x = 1 from e 1 (by omega)), if_neg (show ¬ x = 2 from e 2 (by omega)), if_neg (show ¬ x = 3 from e 3 (by omega)), if_neg (show ¬ x = 4 from e 4 (by omega)), if_neg (show ¬ x = 5 from e 5 (by omega)), if_neg (show ¬ x = 6 from e 6 (by omega)), if_neg (show ¬ x = 7 from e 7 (by omega)), if_neg (show ¬ x = 8 from e 8 (by omega)), if_neg (show ¬ x = 9 from e 9 (by omega)), if_neg (show ¬ x = 10 from e 10 (by omega)), if_neg (show ¬ x = 11 from e 11 (by omega)), if_neg (show ¬ x = 12 from e 12 (by omega)), if_neg (show ¬ x = 13 from e 13 (by omega)), if_neg (show ¬ x = 14 from e 14 (by omega)), if_neg (show ¬ x = 15 from e 15 (by omega)), if_neg (show ¬ x = 16 from e 16 (by omega)), if_neg (show ¬ x = 17 from e 17 (by omega)), if_neg (show ¬ x = 18 from e 18 (by omega)), cV12, r_bad1, cS_l]
end CN
