/- needs: 46.rday2 -/
/-! the class's day by a rule -/
theorem rf_0_10 (s : sg) (a : Nat) : rf s 0 a 10 = s.2.1 a 10 := rfl
theorem im_0_10 (a : Nat) : imK 0 a 10 = none := rfl
/-- the class's rules at r -/
def CRl (s : sg) (r nr : Nat) (q : Nat → Int32) (b : Nat → Nat) : Prop := s.1 r 0 = nI nr ∧ ∀ i, i < nr → s.1 (r + 2) i = nI (b (i + 1)) ∧ ∀ j, j < b (i + 1) → s.1 (r + 1) j = trc (q j)
theorem CRl_fr {Q : Nat → Nat → Prop} {s s' : sg} {r nr : Nat} {q : Nat → Int32} {b : Nat → Nat} (h : CRl s r nr q b) (f : Fr Q s s') (h0 : ¬ Q r 0) (h1 : ∀ j, ¬ Q (r + 1) j) (h2 : ∀ j, ¬ Q (r + 2) j) : CRl s' r nr q b := ⟨(f.1 _ _ h0).trans h.1, fun i hi => ⟨(f.1 _ _ (h2 _)).trans (h.2 i hi).1, fun j hj => (f.1 _ _ (h1 _)).trans ((h.2 i hi).2 j hj)⟩⟩
/-- open shots, as bits -/
def obt (P : pln) (st : Nat → Int32) (bo : Bool) : Nat → Nat
  | 0 => 0
  | k + 1 => if (opk P st k && (decide (P 1 k = 2) == bo)) = true then obt P st bo k ||| 2 ^ k else obt P st bo k
theorem obt_s (P : pln) (st : Nat → Int32) (bo : Bool) (k : Nat) : obt P st bo (k + 1) = if (opk P st k && (decide (P 1 k = 2) == bo)) = true then obt P st bo k ||| 2 ^ k else obt P st bo k := rfl
theorem obt_tb (P : pln) (st : Nat → Int32) (bo : Bool) : ∀ n j, (obt P st bo n).testBit j = (decide (j < n) && (opk P st j && (decide (P 1 j = 2) == bo)))
  | 0, j => by simp [obt]
  | n + 1, j => by
    rw [obt_s]
    by_cases c : (opk P st n && (decide (P 1 n = 2) == bo)) = true
    · rw [if_pos c, or_tb, obt_tb P st bo n j]
      by_cases e : j = n
      · subst e; rw [c]; simp
      · by_cases g : j < n
        · simp [g, show j < n + 1 by omega, Ne.symm e]
        · simp [g, show ¬ j < n + 1 by omega, Ne.symm e]
    · rw [if_neg c, obt_tb P st bo n j]
      by_cases e : j = n
      · subst e
        have : (opk P st j && (decide (P 1 j = 2) == bo)) = false := by simpa using c
        rw [this]; simp
      · by_cases g : j < n
        · simp [g, show j < n + 1 by omega]
        · simp [g, show ¬ j < n + 1 by omega]
theorem obt_lt (P : pln) (st : Nat → Int32) (bo : Bool) (n : Nat) : obt P st bo n < 2 ^ n := by
  apply Nat.lt_pow_two_of_testBit
  intro j hj
  rw [obt_tb]
  simp [show ¬ j < n by omega]
theorem obt_0 (P : pln) (st : Nat → Int32) (bo : Bool) : ∀ n, obt P st bo n = 0 ↔ sme P st bo n = false
  | 0 => by simp [obt, sme]
  | n + 1 => by
    rw [obt_s, sme_s]
    have ih := obt_0 P st bo n
    by_cases c : (opk P st n && (decide (P 1 n = 2) == bo)) = true
    · rw [if_pos c, c]
      constructor
      · intro h
        have := or_tb (S := obt P st bo n) (k := n) (j := n)
        rw [h, Nat.zero_testBit] at this
        simp at this
      · intro h; simp at h
    · have c' : (opk P st n && (decide (P 1 n = 2) == bo)) = false := by simpa using c
      rw [if_neg c, c', Bool.or_false]
      exact ih
theorem why_o {P : pln} {st : Nat → Int32} {K : Nat → Bool} {D k m : Nat} : sWhy P st K D k m = 0 ↔ (opk P st k && (decide (P 1 k = 2) == isI st)) = true ∧ sMin P st K D k m = 0 := by
  unfold sWhy opk isI
  cases h1 : sBit (st 2) (nI k)
  · by_cases h2 : P 6 k = -1
    · cases h4 : (decide (P 1 k = 2) == decide (st 1 = 1)) <;> simp [h2]
    · cases h3 : sBit (st 2) (P 6 k)
      · simp [h2]
      · cases h4 : (decide (P 1 k = 2) == decide (st 1 = 1)) <;> simp [h2]
  · simp
def DAc (s : sg) (P : pln) (n : Nat) (t : dT) : Prop := s.1 384 0 = t.2.1 ∧ (∀ k, k < 8 → sBit t.2.1 (nI k) = true → s.1 385 k = t.2.2.1 k) ∧ s.1 384 2 = t.2.2.2.1 ∧ s.1 384 3 = t.2.2.2.2.1 ∧ s.1 384 4 = t.2.2.2.2.2.1 ∧ s.1 384 5 = t.2.2.2.2.2.2 ∧ s.1 384 11 = nI (obt P t.1 (isI t.1) n) ∧ s.1 384 12 = nI (obt P t.1 (!isI t.1) n)
theorem DAc_fr {Q : Nat → Nat → Prop} {s s' : sg} {P : pln} {n : Nat} {t : dT} (h : DAc s P n t) (f : Fr Q s s') (h1 : ∀ j, ¬ Q 384 j) (h2 : ∀ j, ¬ Q 385 j) : DAc s' P n t :=
  ⟨(f.1 _ _ (h1 _)).trans h.1, fun k hk hb => (f.1 _ _ (h2 _)).trans (h.2.1 k hk hb), (f.1 _ _ (h1 _)).trans h.2.2.1, (f.1 _ _ (h1 _)).trans h.2.2.2.1, (f.1 _ _ (h1 _)).trans h.2.2.2.2.1, (f.1 _ _ (h1 _)).trans h.2.2.2.2.2.1, (f.1 _ _ (h1 _)).trans h.2.2.2.2.2.2.1, (f.1 _ _ (h1 _)).trans h.2.2.2.2.2.2.2⟩
/-- what stands all through the class's day -/
def CD (s : sg) (p : Nat) (P : pln) (n D mv nr : Nat) (q : Nat → Int32) (b : Nat → Nat) (K : Nat → Bool) (st : Nat → Int32) : Prop := s.2.1 384 10 = p ∧ CPl s p P n D mv ∧ CRl s (p + 4) nr q b ∧ OLk s 391 p 387 D K ∧ SAt s 387 st K
theorem oo_391 : ooO 391 := ⟨rfl, rfl, rfl, rfl, rfl⟩
theorem so_387 : stO 387 := stA_O (Or.inr (Or.inr rfl))
/-- cells that the class's day uses -/
def dQ (p x j : Nat) : Prop := (384 ≤ x ∧ x ≤ 393) ∨ x = p + 7 ∨ (x = p + 4 ∧ j = 5)
section CE
variable {N : Nat} {s : sg} {P : pln} {st : Nat → Int32} {K : Nat → Bool} {n D mv k m nr p a : Nat} {q : Nat → Int32} {b : Nat → Nat} {x : Int32}
theorem CD_fr {Q : Nat → Nat → Prop} {s' : sg} (h : CD s p P n D mv nr q b K st) (hp : plA p) (hn : n ≤ 8) (f : Fr Q s s') (h1 : ∀ y j, p ≤ y → y ≤ p + 15 → y ≠ p + 7 → (y = p + 4 → j ≠ 5) → ¬ Q y j) (h2 : ∀ y j, 387 ≤ y → y ≤ 393 → ¬ Q y j) (h3 : ¬ Q 384 10) : CD s' p P n D mv nr q b K st := by
  have hp2 := plA_le hp
  obtain ⟨a1, a2, a3, a4, a5⟩ := h
  refine ⟨(f.2.1 _ _ h3).trans a1, ?_, CRl_fr a3 f (h1 _ _ (by omega) (by omega) (by omega) (by omega)) (fun j => h1 _ _ (by omega) (by omega) (by omega) (by omega)) (fun j => h1 _ _ (by omega) (by omega) (by omega) (by omega)), OLk_fr a4 f (fun y j g1 g2 => h2 y j (by omega) (by omega)), SAt_fr a5 f (fun y j g1 g2 => h2 y j (by omega) (by omega))⟩
  refine ⟨(f.1 _ _ (h1 _ _ (by omega) (by omega) (by omega) (by omega))).trans a2.1, (f.1 _ _ (h1 _ _ (by omega) (by omega) (by omega) (by omega))).trans a2.2.1, (f.1 _ _ (h1 _ _ (by omega) (by omega) (by omega) (by omega))).trans a2.2.2.1, fun k hk => ?_⟩
  have e : ∀ j, s'.1 (p + 1 + 7 + k) j = s.1 (p + 1 + 7 + k) j := fun j => f.1 _ _ (h1 _ _ (by omega) (by omega) (by omega) (by omega))
  obtain ⟨g1, g2, g3, g4, g5, g6⟩ := a2.2.2.2 k hk
  exact ⟨(e _).trans g1, (e _).trans g2, (e _).trans g3, (e _).trans g4, (e _).trans g5, (e _).trans g6⟩
theorem c_gives {v : Nat → Int32} {r : Nat} (hN1 : 1000 ≤ N) (hp : plA p) (R : Wr nr q b) (hr : r < nr) (hc : CRl s (p + 4) nr q b) (hv : ∀ j, j < 8 → s.1 386 j = v j) : ∃ s', fX4_gives N (p + 4) (nI r) 386 (mk s) = some (.inl (evq q v (b (r + 1) - b r) (b r) 0 (fun _ => 0)), mk s') ∧ Fr (fun y j => y = p + 7 ∨ (y = p + 4 ∧ j = 5)) s s' := by
  have hrO := plA_r hp
  have hp2 := plA_le hp
  have hr4 := R.1
  obtain ⟨b1, b2, b3⟩ := R.2.2 r hr
  obtain ⟨c1, c2⟩ := hc.2 r hr
  have ir : inB (nI r) 4 = true := inA_nI (by omega) (by omega)
  have f1 : Fr (fun y j => y = p + 4 + 3 ∨ (y = p + 4 ∧ j = 5)) s (sI s (p + 4) 5 0) := Fr_sI (Or.inr ⟨rfl, rfl⟩)
  obtain ⟨s', g1, g2⟩ := c_giv44 (N := N) (r := p + 4) (e := b (r + 1)) (q := q) (v := v) hrO (by omega) b2 N (b r) 0 (fun _ => 0) (sI s (p + 4) 5 0) (by omega) b1 b3 (by omega) (by simp [sI_c]; rfl) (fun j hj => by omega) (fun j hj => by rw [f1.1 _ _ (by omega)]; exact c2 j hj) (fun j hj => by rw [f1.1 _ _ (by omega)]; exact hv j hj)
  refine ⟨s', ?_, Fr_m (Fr_t f1 g2) (by intros; omega)⟩
  unfold fX4_gives bX4_gives_0
  rw [if_neg (nI_pos (by omega))]
  simp (decide := true) only [ob_s, cS_l, cS_r, gI_k, gR_k, pI_k, pR_k, cV_k, aI_k, tI_k, rZ_0, rZ_1, rZ_i, hrO.1, hc.1]
  rw [if_pos (nI_lt hr (by omega))]
  have e2 : (sI s (p + 4) 5 0).1 (p + 4 + 2) r = nI (b (r + 1)) := by rw [f1.1 _ _ (by omega)]; exact c1
  simp (decide := true) only [ob_s, cS_l, cS_r, gI_k, gR_k, pI_k, pR_k, cV_k, aI_k, tI_k, rZ_0, rZ_1, rZ_i, rf_4_3, hrO.1, hrO.2.2.2.1, hrO.2.2.2.2.1, ir, nI_clamp (show r < 2 ^ 31 by omega), e2]
  unfold bX4_gives_42
  cases r with
  | zero =>
    rw [if_neg (fun q => q rfl)]
    rw [R.2.1, nI0] at g1
    rw [R.2.1]
    exact g1
  | succ r' =>
    rw [if_pos (nI_ne0 (by omega) (by omega)), nI_pred]
    have ir' : inB (nI r') 4 = true := inA_nI (by omega) (by omega)
    have e3 : (sI s (p + 4) 5 0).1 (p + 4 + 2) r' = nI (b (r' + 1)) := by rw [f1.1 _ _ (by omega)]; exact (hc.2 r' (by omega)).1
    simp (decide := true) only [ob_s, cS_l, cS_r, gI_k, gR_k, pI_k, pR_k, cV_k, aI_k, tI_k, rZ_0, rZ_1, rZ_i, hrO.2.2.2.1, hrO.2.2.2.2.1, ir', nI_clamp (show r' < 2 ^ 31 by omega), e3]
    exact g1
theorem c_givenBy {r : Nat} (hN1 : 1000 ≤ N) (W : Wp P n D mv) (Z : Ws st n D) (R : Wr nr q b) (hp : plA p) (h : CD s p P n D mv nr q b K st) (hr : r < nr) (hk : k < n) (hm : nowN st < D) : ∃ s', fX0_givenBy N 384 (nI r) (nI k) (mk s) = some (.inl (gvl P K D q b (nI r) st k), mk s') ∧ Fr (fun y j => y = 386 ∨ y = p + 7 ∨ (y = p + 4 ∧ j = 5)) s s' := by
  have hn8 := W.1
  have hD := W.2.2.2.1
  have hpO := plA_O hp
  have hp2 := plA_le hp
  have hrO := plA_r hp
  have hq := hpO.2.2.2.1 k (by omega)
  obtain ⟨⟨h0, h0'⟩, _⟩ := Ws_n Z W.1 W.2.2.2.1
  obtain ⟨a1, a2, a3, a4, a5⟩ := h
  obtain ⟨g1, g2, g3, g4, g5, g6⟩ := a2.2.2.2 k hk
  have ik : inB (nI k) 8 = true := inA_nI (by omega) (by omega)
  have im : inB (nI (nowN st)) 481 = true := inA_nI (by omega) (by omega)
  have e0 : s.1 387 0 = nI (nowN st) := a5.1.trans h0
  have e4 : s.1 387 4 = st 3 := a5.2.2.2.1
  have e7 : s.1 388 k = st (7 + k) := a5.2.2.2.2.2.2.2.1 k (by omega)
  have el : s.1 392 (nowN st) = nI (stays K D (nowN st)) := (a4.2.2.2 (nowN st) (by omega) hm).1
  have dv : dvI (nI (nowN st)) 60 = some (nI (nowN st / 60)) := dv_nI (b := 60) (by omega) (by omega) (by omega)
  have np : ∀ y, y ≤ 33 → ¬ y = 386 := fun y hy => by omega
  unfold fX0_givenBy bX0_givenBy_0
  simp (decide := true) only [ob_s, cS_l, cS_r, gI_k, gR_k, pI_k, pR_k, cV_k, aI_k, tI_k, rZ_0, rZ_1, rZ_i, aR_24, rf_3_6, rf_3_8, rf_0_6, rf_0_7, rf_0_8, rf_0_9, rf_0_10, rf_1_0, rf_1_1, rf_9_7, rf_9_8, Nat.reduceAdd, kc_384, kc_385, kc_386, kc_387, kc_388, kc_389, kc_390, kc_391, kc_392, kc_393, kn_385, kn_386, kn_388, kn_390, kn_392, kn_393, a1, hpO.1, hpO.2.1, hpO.2.2.1, ik, nI_clamp (show k < 2 ^ 31 by omega), hq, g1, g2, g3, g5, nc_0, nc_1, nc_2, nc_3, nc_4, nc_5, nc_6, nc_7, sI_c, sI_r, np (p + 1 + 7 + k) (by omega), Nat.reduceEqDiff, false_and, if_false, e0, im, nI_clamp (show nowN st < 2 ^ 31 by omega), el, dv, e4, e7]
  generalize hs2 : sI (sI (sI (sI (sI (sI (sI (sI s 386 0 (P 3 k)) 386 1 (P 1 k)) 386 2 (P 2 k)) 386 3 (nI (stays K D (nowN st)))) 386 4 (P 5 k - nI (nowN st) + 1)) 386 5 (nI (nowN st / 60))) 386 6 (st 3)) 386 7 (st (7 + k)) = s2
  have f2 : Fr (fun y _ => y = 386) s s2 := by
    rw [← hs2]
    exact Fr_t (Fr_t (Fr_t (Fr_t (Fr_t (Fr_t (Fr_t (Fr_sI rfl) (Fr_sI rfl)) (Fr_sI rfl)) (Fr_sI rfl)) (Fr_sI rfl)) (Fr_sI rfl)) (Fr_sI rfl)) (Fr_sI rfl)
  have hv : ∀ j, j < 8 → s2.1 386 j = vls P st K D k j := fun j hj => by
    rw [← hs2]
    rcases (show j = 0 ∨ j = 1 ∨ j = 2 ∨ j = 3 ∨ j = 4 ∨ j = 5 ∨ j = 6 ∨ j = 7 by omega) with rfl | rfl | rfl | rfl | rfl | rfl | rfl | rfl <;> simp [sI_c, vls]
    rw [h0]
  have hc2 := CRl_fr a3 f2 (by omega) (by intros; omega) (by intros; omega)
  obtain ⟨s3, d1, d2⟩ := c_gives (N := N) hN1 hp R hr hc2 hv
  refine ⟨s3, ?_, Fr_t (Fr_m f2 (by intros; omega)) (Fr_m d2 (by intros; omega))⟩
  have a12 : s2.2.1 384 10 = p := (f2.2.1 _ _ (by omega)).trans a1
  have hr4 := R.1
  simp (decide := true) only [ob_s, cS_l, cS_r, gI_k, gR_k, pI_k, pR_k, cV_k, aI_k, tI_k, rZ_0, rZ_1, rZ_i, aR_24, rf_3_6, rf_3_8, rf_0_6, rf_0_7, rf_0_8, rf_0_9, rf_0_10, rf_1_0, rf_1_1, rf_9_7, rf_9_8, Nat.reduceAdd, kc_384, kc_385, kc_386, kc_387, kc_388, kc_389, kc_390, kc_391, kc_392, kc_393, kn_385, kn_386, kn_388, kn_390, kn_392, kn_393, a12, hpO.1, hrO.1, d1]
  unfold gvl
  rw [if_neg (m1_ne (by omega)), nI_clamp (by omega)]
theorem c_chosen7 (hN1 : 1000 ≤ N) (W : Wp P n D mv) (Z : Ws st n D) (R : Wr nr q b) (hp : plA p) (hx : isRl nr x) (hm : nowN st < D) : ∀ (f k : Nat) (bb mo : Int32) (s : sg), n - k < f → k ≤ n → (x = -1 → bb = -1 ∧ mo = 0) → CD s p P n D mv nr q b K st → s.1 384 11 = nI (obt P st (isI st) n) → ∃ s', lX0_chosen_7 N f 384 x bb mo (nI k) (mk s) = some (.inl (pkf (fun k => sWhy P st K D k (nowN st)) (gvl P K D q b x st) (n - k) k bb mo), mk s') ∧ Fr (fun y j => y = 386 ∨ y = p + 7 ∨ (y = p + 4 ∧ j = 5)) s s' := by
  have hn8 := W.1
  have hD := W.2.2.2.1
  have hpO := plA_O hp
  have hp2 := plA_le hp
  obtain ⟨⟨h0, h0'⟩, _⟩ := Ws_n Z W.1 W.2.2.2.1
  intro f
  induction f with
  | zero => intro k bb mo s hf; omega
  | succ f ih =>
    intro k bb mo s hf hk hno h h11
    show ∃ s', bX0_chosen_7 N (lX0_chosen_7 N f) 384 x bb mo (nI k) (mk s) = _ ∧ _
    unfold bX0_chosen_7 bX0_chosen_106
    simp (decide := true) only [ob_s, cS_l, cS_r, gI_k, gR_k, pI_k, pR_k, cV_k, aI_k, tI_k, rZ_0, rZ_1, rZ_i, aR_24, rf_3_6, rf_3_8, rf_0_6, rf_0_7, rf_0_8, rf_0_9, rf_0_10, rf_1_0, rf_1_1, rf_9_7, rf_9_8, Nat.reduceAdd, kc_384, kc_385, kc_386, kc_387, kc_388, kc_389, kc_390, kc_391, kc_392, kc_393, kn_385, kn_386, kn_388, kn_390, kn_392, kn_393, h.1, hpO.1, h.2.1.2.2.1]
    by_cases c : n ≤ k
    · rw [if_pos (nI_le c (by omega)), show n - k = 0 by omega]
      exact ⟨s, rfl, Fr_r _ _⟩
    · rw [if_neg (nI_ge (by omega) (by omega))]
      obtain ⟨g, hg, hg2⟩ := sub1 (show k < n by omega)
      have hb : ((nI (obt P st (isI st) n) >>> (nI k &&& 31)) &&& 1 = 1) ↔ (opk P st k && (decide (P 1 k = 2) == isI st)) = true := by
        rw [bit_of _ _ (by omega), bt_nI _ _ (by omega), obt_tb]
        simp [show k < n by omega]
      simp (decide := true) only [ob_s, cS_l, cS_r, gI_k, gR_k, pI_k, pR_k, cV_k, aI_k, tI_k, rZ_0, rZ_1, rZ_i, aR_24, rf_3_6, rf_3_8, rf_0_6, rf_0_7, rf_0_8, rf_0_9, rf_0_10, rf_1_0, rf_1_1, rf_9_7, rf_9_8, Nat.reduceAdd, kc_384, kc_385, kc_386, kc_387, kc_388, kc_389, kc_390, kc_391, kc_392, kc_393, kn_385, kn_386, kn_388, kn_390, kn_392, kn_393, h11]
      rw [hg, pkf_s]
      have skip : ∀ s1, sWhy P st K D k (nowN st) ≠ 0 ∨ ¬ mo < gvl P K D q b x st k → CD s1 p P n D mv nr q b K st → s1.1 384 11 = nI (obt P st (isI st) n) → Fr (fun y j => y = 386 ∨ y = p + 7 ∨ (y = p + 4 ∧ j = 5)) s s1 → ∃ s', bX0_chosen_100 N (lX0_chosen_7 N f) 384 x bb mo (nI k) (mk s1) = some (.inl (if sWhy P st K D k (nowN st) = 0 ∧ mo < gvl P K D q b x st k then pkf (fun k => sWhy P st K D k (nowN st)) (gvl P K D q b x st) g (k + 1) (nI k) (gvl P K D q b x st k) else pkf (fun k => sWhy P st K D k (nowN st)) (gvl P K D q b x st) g (k + 1) bb mo), mk s') ∧ Fr (fun y j => y = 386 ∨ y = p + 7 ∨ (y = p + 4 ∧ j = 5)) s s' := by
        intro s1 hsk h1 h2 h3
        unfold bX0_chosen_100
        rw [nI_1, if_neg (fun q => hsk.elim (fun g1 => g1 q.1) (fun g1 => g1 q.2))]
        obtain ⟨s2, b1, b2⟩ := ih (k + 1) bb mo s1 (by omega) (by omega) hno h1 h2
        rw [hg2] at b1
        exact ⟨s2, b1, Fr_t h3 b2⟩
      have c37 : ∀ y : Int32, (y = 0 → (opk P st k && (decide (P 1 k = 2) == isI st)) = false) → (y ≠ 0 → (opk P st k && (decide (P 1 k = 2) == isI st)) = true) → ∃ s', bX0_chosen_37 N (lX0_chosen_7 N f) 384 x bb mo (nI k) y (mk s) = some (.inl (if sWhy P st K D k (nowN st) = 0 ∧ mo < gvl P K D q b x st k then pkf (fun k => sWhy P st K D k (nowN st)) (gvl P K D q b x st) g (k + 1) (nI k) (gvl P K D q b x st k) else pkf (fun k => sWhy P st K D k (nowN st)) (gvl P K D q b x st) g (k + 1) bb mo), mk s') ∧ Fr (fun y j => y = 386 ∨ y = p + 7 ∨ (y = p + 4 ∧ j = 5)) s s' := by
        intro y y0 y1
        unfold bX0_chosen_37 bX0_chosen_76
        by_cases cy : y = 0
        · rw [if_pos cy]
          exact skip s (Or.inl (fun q => by have := (why_o.mp q).1; rw [y0 cy] at this; cases this)) h h11 (Fr_r _ _)
        · rw [if_neg cy]
          have hq := hpO.2.2.2.1 k (by omega)
          have ik : inB (nI k) 8 = true := inA_nI (by omega) (by omega)
          have e0 : s.1 387 0 = nI (nowN st) := h.2.2.2.2.1.trans h0
          have hhm := c_hindM (N := N) (k := k) (m := nowN st) oo_391 so_387 h.2.2.2.1 h.2.2.2.2 Z.2.2.2 hq (h.2.1.2.2.2 k (by omega)) (W.2.2.2.2.2.2.2 k (by omega)).1 hm hD
          simp (decide := true) only [ob_s, cS_l, cS_r, gI_k, gR_k, pI_k, pR_k, cV_k, aI_k, tI_k, rZ_0, rZ_1, rZ_i, aR_24, rf_3_6, rf_3_8, rf_0_6, rf_0_7, rf_0_8, rf_0_9, rf_0_10, rf_1_0, rf_1_1, rf_9_7, rf_9_8, Nat.reduceAdd, kc_384, kc_385, kc_386, kc_387, kc_388, kc_389, kc_390, kc_391, kc_392, kc_393, kn_385, kn_386, kn_388, kn_390, kn_392, kn_393, h.1, hpO.1, hpO.2.1, hpO.2.2.1, ik, nI_clamp (show k < 2 ^ 31 by omega), e0, hhm]
          by_cases c2 : sMin P st K D k (nowN st) = 0
          · have hw : sWhy P st K D k (nowN st) = 0 := why_o.mpr ⟨y1 cy, c2⟩
            rw [if_neg (fun q => q c2)]
            rcases hx with rfl | ⟨r, hr, rfl⟩
            · rw [if_neg (fun q => q rfl)]
              obtain ⟨hb1, hb2⟩ := hno rfl
              have g1 : ∀ k, gvl P K D q b (-1) st k = 1 := fun k => if_pos rfl
              refine ⟨s, ?_, Fr_r _ _⟩
              rw [hb2, g1, if_pos ⟨hw, by decide⟩, pkf_1 _ g1]
            · have hr4 := R.1
              rw [if_pos (m1_ne (by omega))]
              obtain ⟨s1, a1, a2⟩ := c_givenBy (N := N) hN1 W Z R hp h hr (show k < n by omega) hm
              simp (decide := true) only [ob_s, cS_l, cS_r, gI_k, gR_k, pI_k, pR_k, cV_k, aI_k, tI_k, rZ_0, rZ_1, rZ_i, aR_24, rf_3_6, rf_3_8, rf_0_6, rf_0_7, rf_0_8, rf_0_9, rf_0_10, rf_1_0, rf_1_1, rf_9_7, rf_9_8, Nat.reduceAdd, kc_384, kc_385, kc_386, kc_387, kc_388, kc_389, kc_390, kc_391, kc_392, kc_393, kn_385, kn_386, kn_388, kn_390, kn_392, kn_393, a1]
              have h1 := CD_fr h hp hn8 a2 (by intros; omega) (by intros; omega) (by omega)
              have h2 : s1.1 384 11 = nI (obt P st (isI st) n) := (a2.1 _ _ (by omega)).trans h11
              by_cases c3 : gvl P K D q b (nI r) st k ≤ mo
              · rw [if_pos c3]
                exact skip s1 (Or.inr (Int32.not_lt.mpr c3)) h1 h2 a2
              · rw [if_neg c3, if_pos ⟨hw, Int32.not_le.mp c3⟩]
                unfold bX0_chosen_100
                rw [nI_1]
                obtain ⟨s2, b1, b2⟩ := ih (k + 1) (nI k) (gvl P K D q b (nI r) st k) s1 (by omega) (by omega) (fun q => absurd q (m1_ne (by omega))) h1 h2
                rw [hg2] at b1
                exact ⟨s2, b1, Fr_t a2 b2⟩
          · rw [if_pos c2]
            exact skip s (Or.inl (fun q => c2 (why_o.mp q).2)) h h11 (Fr_r _ _)
      by_cases c1 : (opk P st k && (decide (P 1 k = 2) == isI st)) = true
      · rw [if_neg (fun q => q (hb.mpr c1))]
        exact c37 1 (fun q => absurd q (by decide)) (fun _ => c1)
      · rw [if_pos (fun q => c1 (hb.mp q))]
        exact c37 0 (fun _ => by simpa using c1) (fun q => absurd rfl q)
theorem c_fo12 (W : Wp P n D mv) (Z : Ws st n D) (hp : plA p) : ∀ (f k : Nat) (s : sg), n - k < f → k ≤ n → CD s p P n D mv nr q b K st → s.1 384 11 = nI (obt P st (isI st) k) → s.1 384 12 = nI (obt P st (!isI st) k) → ∃ s', lX0_findOpen_12 N f 384 (nI k) (mk s) = some (.inl (), mk s') ∧ s'.1 384 11 = nI (obt P st (isI st) n) ∧ s'.1 384 12 = nI (obt P st (!isI st) n) ∧ Fr (fun y j => y = 384 ∧ (j = 11 ∨ j = 12)) s s' := by
  have hn8 := W.1
  have hpO := plA_O hp
  have hp2 := plA_le hp
  obtain ⟨_, ⟨h1, h1'⟩, _⟩ := Ws_n Z W.1 W.2.2.2.1
  intro f
  induction f with
  | zero => intro k s hf; omega
  | succ f ih =>
    intro k s hf hk h e11 e12
    show ∃ s', bX0_findOpen_12 N (lX0_findOpen_12 N f) 384 (nI k) (mk s) = _ ∧ _
    unfold bX0_findOpen_12
    simp (decide := true) only [ob_s, cS_l, cS_r, gI_k, gR_k, pI_k, pR_k, cV_k, aI_k, tI_k, rZ_0, rZ_1, rZ_i, aR_24, rf_3_6, rf_3_8, rf_0_6, rf_0_7, rf_0_8, rf_0_9, rf_0_10, rf_1_0, rf_1_1, rf_9_7, rf_9_8, Nat.reduceAdd, kc_384, kc_385, kc_386, kc_387, kc_388, kc_389, kc_390, kc_391, kc_392, kc_393, kn_385, kn_386, kn_388, kn_390, kn_392, kn_393, h.1, hpO.1, h.2.1.2.2.1]
    by_cases c : n ≤ k
    · rw [if_pos (nI_le c (by omega))]
      have : k = n := by omega
      subst this
      exact ⟨s, rfl, e11, e12, Fr_r _ _⟩
    · rw [if_neg (nI_ge (by omega) (by omega))]
      have hq := hpO.2.2.2.1 k (by omega)
      have ik : inB (nI k) 8 = true := inA_nI (by omega) (by omega)
      obtain ⟨g1, g2, g3, g4, g5, g6⟩ := h.2.1.2.2.2 k (by omega)
      have e1 : s.1 387 1 = st 1 := h.2.2.2.2.2.1
      have nxt : ∀ s1, s1.1 384 11 = nI (obt P st (isI st) (k + 1)) → s1.1 384 12 = nI (obt P st (!isI st) (k + 1)) → Fr (fun y j => y = 384 ∧ (j = 11 ∨ j = 12)) s s1 → ∃ s', bX0_findOpen_107 N (lX0_findOpen_12 N f) 384 (nI k) (mk s1) = some (.inl (), mk s') ∧ s'.1 384 11 = nI (obt P st (isI st) n) ∧ s'.1 384 12 = nI (obt P st (!isI st) n) ∧ Fr (fun y j => y = 384 ∧ (j = 11 ∨ j = 12)) s s' := by
        intro s1 q1 q2 q3
        unfold bX0_findOpen_107
        rw [nI_1]
        obtain ⟨s2, b1, b2, b3, b4⟩ := ih (k + 1) s1 (by omega) (by omega) (CD_fr h hp hn8 q3 (by intros; omega) (by intros; omega) (by omega)) q1 q2
        exact ⟨s2, b1, b2, b3, Fr_t q3 b4⟩
      have closed : opk P st k = false → ∃ s', bX0_findOpen_107 N (lX0_findOpen_12 N f) 384 (nI k) (mk s) = some (.inl (), mk s') ∧ s'.1 384 11 = nI (obt P st (isI st) n) ∧ s'.1 384 12 = nI (obt P st (!isI st) n) ∧ Fr (fun y j => y = 384 ∧ (j = 11 ∨ j = 12)) s s' := by
        intro ho
        refine nxt s ?_ ?_ (Fr_r _ _)
        · rw [obt_s, ho, Bool.false_and, if_neg (by decide)]; exact e11
        · rw [obt_s, ho, Bool.false_and, if_neg (by decide)]; exact e12
      have opened : opk P st k = true → ∃ s', bX0_findOpen_66 N (lX0_findOpen_12 N f) 384 (nI k) (p + 1 + 7 + k) (mk s) = some (.inl (), mk s') ∧ s'.1 384 11 = nI (obt P st (isI st) n) ∧ s'.1 384 12 = nI (obt P st (!isI st) n) ∧ Fr (fun y j => y = 384 ∧ (j = 11 ∨ j = 12)) s s' := by
        intro ho
        unfold bX0_findOpen_66
        simp (decide := true) only [ob_s, cS_l, cS_r, gI_k, gR_k, pI_k, pR_k, cV_k, aI_k, tI_k, rZ_0, rZ_1, rZ_i, aR_24, rf_3_6, rf_3_8, rf_0_6, rf_0_7, rf_0_8, rf_0_9, rf_0_10, rf_1_0, rf_1_1, rf_9_7, rf_9_8, Nat.reduceAdd, kc_384, kc_385, kc_386, kc_387, kc_388, kc_389, kc_390, kc_391, kc_392, kc_393, kn_385, kn_386, kn_388, kn_390, kn_392, kn_393, hq, c_place hq (h.2.1.2.2.2 k (by omega)), e1, e11, e12, or_bit _ k (show k < 32 by omega)]
        have hI : st 1 = sk_i (isI st) := by
          unfold isI
          rcases Z.2.1 with g | g <;> rw [g] <;> decide
        rw [hI]
        by_cases c2 : decide (P 1 k = 2) = isI st
        · rw [if_neg (fun q => q (by rw [c2]))]
          refine nxt _ ?_ ?_ (Fr_sI (by omega))
          · rw [sI_1, if_pos ⟨rfl, rfl⟩, obt_s, ho, c2, if_pos (by simp)]
          · rw [sI_1, if_neg (by omega), obt_s, ho, c2, if_neg (by simp)]; exact e12
        · rw [if_pos (fun q => c2 (sk_inj.mp q))]
          refine nxt _ ?_ ?_ (Fr_sI (by omega))
          · rw [sI_1, if_neg (by omega), obt_s, ho, if_neg (by simpa using c2)]; exact e11
          · rw [sI_1, if_pos ⟨rfl, rfl⟩, obt_s, ho, if_pos]
            cases h8 : decide (P 1 k = 2) <;> cases h9 : isI st <;> simp_all
      simp (decide := true) only [ob_s, cS_l, cS_r, gI_k, gR_k, pI_k, pR_k, cV_k, aI_k, tI_k, rZ_0, rZ_1, rZ_i, aR_24, rf_3_6, rf_3_8, rf_0_6, rf_0_7, rf_0_8, rf_0_9, rf_0_10, rf_1_0, rf_1_1, rf_9_7, rf_9_8, Nat.reduceAdd, kc_384, kc_385, kc_386, kc_387, kc_388, kc_389, kc_390, kc_391, kc_392, kc_393, kn_385, kn_386, kn_388, kn_390, kn_392, kn_393, h.1, hpO.1, hpO.2.1, hpO.2.2.1, ik, nI_clamp (show k < 2 ^ 31 by omega), c_isHad so_387 h.2.2.2.2, hq, g6, sk_0]
      unfold opk at closed opened
      cases h2 : sBit (st 2) (nI k)
      · rw [if_neg (fun q => q rfl)]
        by_cases c6 : P 6 k = -1
        · rw [if_pos c6]
          exact opened (by rw [h2, decide_eq_true c6]; rfl)
        · rw [if_neg c6]
          cases h3 : sBit (st 2) (P 6 k)
          · rw [if_pos rfl]
            exact closed (by rw [h2, h3, decide_eq_false c6]; rfl)
          · rw [if_neg (by decide)]
            exact opened (by rw [h2, h3]; simp)
      · rw [if_pos (by decide)]
        exact closed (by rw [h2]; rfl)
theorem c_findOpen (hN1 : 1000 ≤ N) (W : Wp P n D mv) (Z : Ws st n D) (hp : plA p) (h : CD s p P n D mv nr q b K st) : ∃ s', fX0_findOpen N 384 (mk s) = some (.inl (), mk s') ∧ s'.1 384 11 = nI (obt P st (isI st) n) ∧ s'.1 384 12 = nI (obt P st (!isI st) n) ∧ Fr (fun y j => y = 384 ∧ (j = 11 ∨ j = 12)) s s' := by
  have hn8 := W.1
  have hp2 := plA_le hp
  have f1 : Fr (fun y j => y = 384 ∧ (j = 11 ∨ j = 12)) s (sI (sI s 384 11 0) 384 12 0) := Fr_t (Fr_sI (by omega)) (Fr_sI (by omega))
  obtain ⟨s', b1, b2, b3, b4⟩ := c_fo12 (N := N) W Z hp N 0 (sI (sI s 384 11 0) 384 12 0) (by omega) (by omega) (CD_fr h hp hn8 f1 (by intros; omega) (by intros; omega) (by omega)) (by simp [sI_c]; rfl) (by simp [sI_c]; rfl)
  refine ⟨s', ?_, b2, b3, Fr_t f1 b4⟩
  unfold fX0_findOpen bX0_findOpen_0
  simp (decide := true) only [ob_s, cS_l, cS_r, gI_k, gR_k, pI_k, pR_k, cV_k, aI_k, tI_k, rZ_0, rZ_1, rZ_i, aR_24, rf_3_6, rf_3_8, rf_0_6, rf_0_7, rf_0_8, rf_0_9, rf_0_10, rf_1_0, rf_1_1, rf_9_7, rf_9_8, Nat.reduceAdd, kc_384, kc_385, kc_386, kc_387, kc_388, kc_389, kc_390, kc_391, kc_392, kc_393, kn_385, kn_386, kn_388, kn_390, kn_392, kn_393]
  exact b1
end CE
