/- needs: 58.racts2 -/
/-! the reference's image; counts and the fault, both sides; scenes stay good -/
/-- the reference's image -/
def ImR (s : sg) (S : scn) : Prop := s.1 419 53 = nI S.2.2.1.1 ∧ s.1 419 54 = nI S.2.2.2.1.1 ∧ Rw s 447 0 S.1 S.2.1 ∧ (∀ i, i < S.2.2.1.1 → Rw s 448 (31 * i) (S.2.2.1.2.1 i) (S.2.2.1.2.2 i)) ∧ (∀ i, i < S.2.2.2.1.1 → s.1 449 i = nI (S.2.2.2.1.2.1 i) ∧ s.1 450 i = nI (S.2.2.2.1.2.2.1 i) ∧ s.1 451 i = sk_i (S.2.2.2.1.2.2.2 i)) ∧ ∀ j, j < 3 → s.1 452 j = S.2.2.2.2 j
def rI (x j : Nat) : Prop := (447 ≤ x ∧ x ≤ 452) ∨ (x = 419 ∧ (j = 2 ∨ j = 52 ∨ j = 53 ∨ j = 54))
theorem ImR_fr {Q : Nat → Nat → Prop} {s s' : sg} {S : scn} (h : ImR s S) (f : Fr Q s s') (hq : ∀ x j, 447 ≤ x ∧ x ≤ 452 ∨ x = 419 ∧ (j = 53 ∨ j = 54) → ¬ Q x j) : ImR s' S := by
  obtain ⟨h1, h2, h3, h4, h5, h6⟩ := h
  exact ⟨(f.1 _ _ (hq _ _ (by omega))).trans h1, (f.1 _ _ (hq _ _ (by omega))).trans h2, Rw_fr h3 f (fun j => hq _ _ (by omega)), fun i hi => Rw_fr (h4 i hi) f (fun j => hq _ _ (by omega)), fun i hi => ⟨(f.1 _ _ (hq _ _ (by omega))).trans (h5 i hi).1, (f.1 _ _ (hq _ _ (by omega))).trans (h5 i hi).2.1, (f.1 _ _ (hq _ _ (by omega))).trans (h5 i hi).2.2⟩, fun j hj => (f.1 _ _ (hq _ _ (by omega))).trans (h6 j hj)⟩
section RI
variable {N : Nat} {s : sg} {P : pln} {n D mv k m nr w u v p : Nat} {q : Nat → Int32} {b : Nat → Nat} {S S' : scn} {on : Bool}
theorem r_be {a c l : Nat} (hN : 2000 ≤ N) (hac : c ≠ a) (ha : kc a = 20) (hn : kn a = l) (hb : kc c = 20) (hbn : kn c = l) (hl : l ≤ 1300) : ∃ s', fX12_be N a c (mk s) = some (.inl (), mk s') ∧ (∀ j, j < l → s'.1 a j = s.1 c j) ∧ Fr (fun x _ => x = a) s s' :=
  ⟨_, m_be (N := N) (s := s) hN hac ha hn hb hbn hl, fun j hj => by rw [sA_at, if_pos hj], Fr_sA (fun j => rfl)⟩
theorem Rw_cp {s s' : sg} {a c t l : Nat} {st : Nat → Int32} {K : Nat → Bool} (h : Rw s c t st K) (ht : t + 31 ≤ l) (e : ∀ j, j < l → s'.1 a j = s.1 c j) : Rw s' a t st K := by
  refine ⟨fun j hj => (e _ (by omega)).trans (h.1 j hj), fun m hm => ?_⟩
  have hm2 : m / 30 < 16 := by omega
  rw [e _ (by omega)]
  exact h.2 m hm
theorem gI12 (j : Nat) (h : fI 12 j = true) : gI (mk s) 419 12 j = some (s.1 419 j) := gI_k ⟨rfl, h, by decide⟩
theorem pI12 (j : Nat) (h : fI 12 j = true) {x : Int32} : pI (mk s) 419 12 j x = some (mk (sI s 419 j x)) := pI_k ⟨rfl, h, by decide⟩
theorem cV12 {α β : Type} {x : mR α} {f : α → mm_C → mR β} : cV 12 419 (mk s) x f = cS x f := cV_k ⟨rfl, by decide⟩
theorem gR12 (j a : Nat) (h : fR 12 j = true) (ha : imK 12 419 j = some a) : gR (mk s) 419 12 j = some a := by
  rw [gR_k (s := s) (a := 419) (ci := 12) (j := j) ⟨rfl, h, by decide⟩]
  unfold rf
  rw [ha]
  rfl
theorem r_image (hN2 : 2000 ≤ N) (Z : WS n D S) (h : RM s P nr q b S) : ∃ s', fX12_image N 419 (mk s) = some (.inl (), mk s') ∧ s'.1 419 2 = 0 ∧ RM s' P nr q b S ∧ ImR s' S ∧ s'.1 419 52 = 1 ∧ Fr rI s s' := by
  obtain ⟨hm1, z1, _⟩ := RM_0 h
  have fq : Fr rI s (sI s 419 2 0) := Fr_sI (by unfold rI; omega)
  generalize hs1 : sI s 419 2 0 = s1 at hm1 z1 fq
  have hna := Z.2.1
  have hns := Z.2.2.2.1
  have e28 : s1.1 419 28 = nI S.2.2.1.1 := hm1.2.1.1
  have e29 : s1.1 419 29 = nI S.2.2.2.1.1 := hm1.2.2.1.1
  generalize hs2 : sI (sI (sI s1 419 52 1) 419 53 (nI S.2.2.1.1)) 419 54 (nI S.2.2.2.1.1) = s2
  have f2 : Fr (fun y j => y = 419 ∧ (j = 52 ∨ j = 53 ∨ j = 54)) s1 s2 := by
    rw [← hs2]
    exact Fr_t (Fr_t (Fr_sI (by omega)) (Fr_sI (by omega))) (Fr_sI (by omega))
  have k52 : s2.1 419 52 = 1 := by rw [← hs2, sI_1, if_neg (by omega), sI_1, if_neg (by omega), sI_at]
  have k53 : s2.1 419 53 = nI S.2.2.1.1 := by rw [← hs2, sI_1, if_neg (by omega), sI_at]
  have k54 : s2.1 419 54 = nI S.2.2.2.1.1 := by rw [← hs2, sI_at]
  have hK2 : mSky s2 S.2.1 := fun m hm => (f2.1 _ _ (by omega)).trans (hm1.1.1.2.2 m hm)
  have h52 : ∀ j, j < 15 → s2.1 435 j = S.1 j := fun j hj => (f2.1 _ _ (by omega)).trans (hm1.1.1.2.1 j hj)
  have hpk := m_pack (N := N) (s := s2) (a := 447) (t := 0) rfl (by decide) (by omega) (by omega) (by omega) (by omega) hK2
  rw [nI0] at hpk
  have hRw3 := Rw_pk (s := s2) (a := 447) (t := 0) (K := S.2.1) h52 (s2.1 447)
  generalize hs3 : sA s2 447 (pkd (s2.1 447) 0 (s2.1 435) S.2.1) = s3 at hpk hRw3
  have f3 : Fr (fun y j => y = 447) s2 s3 := by rw [← hs3]; exact Fr_sA (fun j => rfl)
  obtain ⟨s4, a4, b4, f4⟩ := r_be (N := N) (s := s3) (a := 448) (c := 436) (l := 1240) hN2 (by omega) rfl rfl rfl rfl (by omega)
  obtain ⟨s5, a5, b5, f5⟩ := r_be (N := N) (s := s4) (a := 449) (c := 443) (l := 8) hN2 (by omega) rfl rfl rfl rfl (by omega)
  obtain ⟨s6, a6, b6, f6⟩ := r_be (N := N) (s := s5) (a := 450) (c := 444) (l := 8) hN2 (by omega) rfl rfl rfl rfl (by omega)
  obtain ⟨s7, a7, b7, f7⟩ := r_be (N := N) (s := s6) (a := 451) (c := 445) (l := 8) hN2 (by omega) rfl rfl rfl rfl (by omega)
  obtain ⟨s8, a8, b8, f8⟩ := r_be (N := N) (s := s7) (a := 452) (c := 433) (l := 3) hN2 (by omega) rfl rfl rfl rfl (by omega)
  have g13 : Fr (fun y j => y = 447 ∨ (y = 419 ∧ (j = 52 ∨ j = 53 ∨ j = 54))) s1 s3 := Fr_t (Fr_m f2 (by intros; omega)) (Fr_m f3 (by intros; omega))
  have g38 : Fr (fun y j => 448 ≤ y ∧ y ≤ 452) s3 s8 := Fr_t (Fr_m f4 (by intros; omega)) (Fr_t (Fr_m f5 (by intros; omega)) (Fr_t (Fr_m f6 (by intros; omega)) (Fr_t (Fr_m f7 (by intros; omega)) (Fr_m f8 (by intros; omega)))))
  have g48 : Fr (fun y j => 449 ≤ y ∧ y ≤ 452) s4 s8 := Fr_t (Fr_m f5 (by intros; omega)) (Fr_t (Fr_m f6 (by intros; omega)) (Fr_t (Fr_m f7 (by intros; omega)) (Fr_m f8 (by intros; omega))))
  have g18 : Fr (fun y j => (447 ≤ y ∧ y ≤ 452) ∨ (y = 419 ∧ (j = 52 ∨ j = 53 ∨ j = 54))) s1 s8 := Fr_t (Fr_m g13 (by intros; omega)) (Fr_m g38 (by intros; omega))
  have hm8 : RM s8 P nr q b S := RM_g (st' := S.1) (K' := S.2.1) hm1 g18 (fun x j g g2 => by unfold rP at g; omega) (fun j hj => (g18.1 _ _ (by omega)).trans (hm1.1.1.2.1 j hj)) (fun m hm => (g18.1 _ _ (by omega)).trans (hm1.1.1.2.2 m hm))
  refine ⟨s8, ?_, (g18.1 _ _ (by omega)).trans z1, hm8, ⟨?_, ?_, Rw_fr hRw3 g38 (by intros; omega), fun i hi => ?_, fun i hi => ⟨?_, ?_, ?_⟩, fun j hj => ?_⟩, ?_, Fr_t fq (Fr_m g18 (fun y j g => by unfold rI; omega))⟩
  · unfold fX12_image bX12_image_0
    have e28' : (sI s1 419 52 1).1 419 28 = nI S.2.2.1.1 := by rw [sI_1, if_neg (by omega)]; exact e28
    have e29' : (sI (sI s1 419 52 1) 419 53 (nI S.2.2.1.1)).1 419 29 = nI S.2.2.2.1.1 := by rw [sI_1, if_neg (by omega), sI_1, if_neg (by omega)]; exact e29
    have hz : pZ (mk s1) 419 12 52 1 = some (mk (sI s1 419 52 1)) := pZ_k ⟨rfl, rfl, by decide⟩ (Or.inr rfl)
    rw [pI12 2 rfl, ob_s, hs1, hz, ob_s, gI12 28 rfl, ob_s, e28', pI12 53 rfl, ob_s, gI12 29 rfl, ob_s, e29', pI12 54 rfl, ob_s, hs2, gR12 55 447 rfl rfl, ob_s, cV12, hpk, cS_l, gR12 56 448 rfl rfl, ob_s, gR12 27 436 rfl rfl, ob_s, a4, cS_l, gR12 57 449 rfl rfl, ob_s, gR12 47 443 rfl rfl, ob_s, a5, cS_l, gR12 58 450 rfl rfl, ob_s, gR12 48 444 rfl rfl, ob_s, a6, cS_l, gR12 59 451 rfl rfl, ob_s, gR12 49 445 rfl rfl, ob_s, a7, cS_l, gR12 60 452 rfl rfl, ob_s, gR12 14 433 rfl rfl, ob_s, a8, cS_l]
  · rw [g38.1 _ _ (by omega), f3.1 _ _ (by omega)]; exact k53
  · rw [g38.1 _ _ (by omega), f3.1 _ _ (by omega)]; exact k54
  · have r3 : Rw s3 436 (31 * i) (S.2.2.1.2.1 i) (S.2.2.1.2.2 i) := Rw_fr (hm1.2.1.2 i hi) g13 (by intros; omega)
    exact Rw_fr (Rw_cp r3 (show 31 * i + 31 ≤ 1240 by omega) b4) g48 (by intros; omega)
  · rw [f8.1 _ _ (by omega), f7.1 _ _ (by omega), f6.1 _ _ (by omega), b5 i (by omega), f4.1 _ _ (by omega), g13.1 _ _ (by omega)]; exact (hm1.2.2.1.2 i hi).1
  · rw [f8.1 _ _ (by omega), f7.1 _ _ (by omega), b6 i (by omega), f5.1 _ _ (by omega), f4.1 _ _ (by omega), g13.1 _ _ (by omega)]; exact (hm1.2.2.1.2 i hi).2.1
  · rw [f8.1 _ _ (by omega), b7 i (by omega), f6.1 _ _ (by omega), f5.1 _ _ (by omega), f4.1 _ _ (by omega), g13.1 _ _ (by omega)]; exact (hm1.2.2.1.2 i hi).2.2
  · rw [b8 j hj, f7.1 _ _ (by omega), f6.1 _ _ (by omega), f5.1 _ _ (by omega), f4.1 _ _ (by omega), g13.1 _ _ (by omega)]; exact hm1.2.2.2 j hj
  · rw [g38.1 _ _ (by omega), f3.1 _ _ (by omega)]; exact k52
theorem r_restore (hN2 : 2000 ≤ N) (Z : WS n D S') (h : RM s P nr q b S) (hi : ImR s S') (h52 : s.1 419 52 = 1) : ∃ s', fX12_restore N 419 (mk s) = some (.inl 1, mk s') ∧ s'.1 419 2 = 0 ∧ RM s' P nr q b S' ∧ Fr rM s s' := by
  obtain ⟨hm1, z1, fq⟩ := RM_0 h
  have f0 : Fr (fun y j => y = 419 ∧ j = 2) s (sI s 419 2 0) := Fr_sI ⟨rfl, rfl⟩
  have hi1 := ImR_fr hi f0 (by intros; omega)
  have k52 : (sI s 419 2 0).1 419 52 = 1 := (f0.1 _ _ (by omega)).trans h52
  generalize hs1 : sI s 419 2 0 = s1 at hm1 z1 fq hi1 k52
  have hna := Z.2.1
  have hns := Z.2.2.2.1
  obtain ⟨i1, i2, i3, i4, i5, i6⟩ := hi1
  generalize hs2 : sI (sI s1 419 28 (nI S'.2.2.1.1)) 419 29 (nI S'.2.2.2.1.1) = s2
  have f2 : Fr (fun y j => y = 419 ∧ (j = 28 ∨ j = 29)) s1 s2 := by
    rw [← hs2]
    exact Fr_t (Fr_sI (by omega)) (Fr_sI (by omega))
  have k28 : s2.1 419 28 = nI S'.2.2.1.1 := by rw [← hs2, sI_1, if_neg (by omega), sI_at]
  have k29 : s2.1 419 29 = nI S'.2.2.2.1.1 := by rw [← hs2, sI_at]
  have hRw2 := Rw_fr i3 f2 (by intros; omega)
  have hun := m_unpack (N := N) (s := s2) (a := 447) (t := 0) rfl (by decide) (by omega) (by omega) (by omega) (by omega)
  rw [nI0] at hun
  obtain ⟨u1, u2⟩ := Rw_un hRw2
  generalize hs3 : sA (sA s2 435 (fun j => if j < 15 then s2.1 447 (0 + j) else s2.1 435 j)) 429 (fun j => if j < 480 then sk_i (bt (s2.1 447 (0 + 15 + j / 30)) (j % 30)) else s2.1 429 j) = s3 at hun u1 u2
  have f3 : Fr (fun y j => y = 435 ∨ y = 429) s2 s3 := by
    rw [← hs3]
    exact Fr_t (Fr_sA (fun j => Or.inl rfl)) (Fr_sA (fun j => Or.inr rfl))
  obtain ⟨s4, a4, b4, f4⟩ := r_be (N := N) (s := s3) (a := 436) (c := 448) (l := 1240) hN2 (by omega) rfl rfl rfl rfl (by omega)
  obtain ⟨s5, a5, b5, f5⟩ := r_be (N := N) (s := s4) (a := 443) (c := 449) (l := 8) hN2 (by omega) rfl rfl rfl rfl (by omega)
  obtain ⟨s6, a6, b6, f6⟩ := r_be (N := N) (s := s5) (a := 444) (c := 450) (l := 8) hN2 (by omega) rfl rfl rfl rfl (by omega)
  obtain ⟨s7, a7, b7, f7⟩ := r_be (N := N) (s := s6) (a := 445) (c := 451) (l := 8) hN2 (by omega) rfl rfl rfl rfl (by omega)
  obtain ⟨s8, a8, b8, f8⟩ := r_be (N := N) (s := s7) (a := 433) (c := 452) (l := 3) hN2 (by omega) rfl rfl rfl rfl (by omega)
  have g13 : Fr (fun y j => y = 435 ∨ y = 429 ∨ (y = 419 ∧ (j = 28 ∨ j = 29))) s1 s3 := Fr_t (Fr_m f2 (by intros; omega)) (Fr_m f3 (by intros; omega))
  have g38 : Fr (fun y j => y = 436 ∨ y = 433 ∨ (443 ≤ y ∧ y ≤ 445)) s3 s8 := Fr_t (Fr_m f4 (by intros; omega)) (Fr_t (Fr_m f5 (by intros; omega)) (Fr_t (Fr_m f6 (by intros; omega)) (Fr_t (Fr_m f7 (by intros; omega)) (Fr_m f8 (by intros; omega)))))
  have g48 : Fr (fun y j => y = 433 ∨ (443 ≤ y ∧ y ≤ 445)) s4 s8 := Fr_t (Fr_m f5 (by intros; omega)) (Fr_t (Fr_m f6 (by intros; omega)) (Fr_t (Fr_m f7 (by intros; omega)) (Fr_m f8 (by intros; omega))))
  have g18 : Fr (fun y j => y = 435 ∨ y = 429 ∨ y = 436 ∨ y = 433 ∨ (443 ≤ y ∧ y ≤ 445) ∨ (y = 419 ∧ (j = 28 ∨ j = 29))) s1 s8 := Fr_t (Fr_m g13 (by intros; omega)) (Fr_m g38 (by intros; omega))
  refine ⟨s8, ?_, (g18.1 _ _ (by omega)).trans z1, ⟨RU2_g hm1.1 g18 (by intros; omega) (fun j hj => (g38.1 _ _ (by omega)).trans (u1 j hj)) (fun m hm => (g38.1 _ _ (by omega)).trans (u2 m hm)), ⟨?_, fun i hi => ?_⟩, ⟨?_, fun i hi => ⟨?_, ?_, ?_⟩⟩, fun j hj => ?_⟩, Fr_t fq (Fr_m g18 (fun y j g => by unfold rM rS; omega))⟩
  · unfold fX12_restore bX12_restore_0
    have e54 : (sI s1 419 28 (nI S'.2.2.1.1)).1 419 54 = nI S'.2.2.2.1.1 := by rw [sI_1, if_neg (by omega)]; exact i2
    rw [pI12 2 rfl, ob_s, hs1, gI12 52 rfl, ob_s, k52, if_pos (by decide), gI12 53 rfl, ob_s, i1, pI12 28 rfl, ob_s, gI12 54 rfl, ob_s, e54, pI12 29 rfl, ob_s, hs2, gR12 55 447 rfl rfl, ob_s, cV12, hun, cS_l, gR12 27 436 rfl rfl, ob_s, gR12 56 448 rfl rfl, ob_s, a4, cS_l, gR12 47 443 rfl rfl, ob_s, gR12 57 449 rfl rfl, ob_s, a5, cS_l, gR12 48 444 rfl rfl, ob_s, gR12 58 450 rfl rfl, ob_s, a6, cS_l, gR12 49 445 rfl rfl, ob_s, gR12 59 451 rfl rfl, ob_s, a7, cS_l, gR12 14 433 rfl rfl, ob_s, gR12 60 452 rfl rfl, ob_s, a8, cS_l, rZ_1]
  · rw [g38.1 _ _ (by omega), f3.1 _ _ (by omega)]; exact k28
  · have r3 : Rw s3 448 (31 * i) (S'.2.2.1.2.1 i) (S'.2.2.1.2.2 i) := Rw_fr (i4 i hi) g13 (by intros; omega)
    have hi' : i < S'.2.2.1.1 := hi
    exact Rw_fr (Rw_cp r3 (show 31 * i + 31 ≤ 1240 by omega) b4) g48 (by intros; omega)
  · rw [g38.1 _ _ (by omega), f3.1 _ _ (by omega)]; exact k29
  · rw [f8.1 _ _ (by omega), f7.1 _ _ (by omega), f6.1 _ _ (by omega), b5 i (by omega), f4.1 _ _ (by omega), g13.1 _ _ (by omega)]; exact (i5 i hi).1
  · rw [f8.1 _ _ (by omega), f7.1 _ _ (by omega), b6 i (by omega), f5.1 _ _ (by omega), f4.1 _ _ (by omega), g13.1 _ _ (by omega)]; exact (i5 i hi).2.1
  · rw [f8.1 _ _ (by omega), b7 i (by omega), f6.1 _ _ (by omega), f5.1 _ _ (by omega), f4.1 _ _ (by omega), g13.1 _ _ (by omega)]; exact (i5 i hi).2.2
  · rw [b8 j hj, f7.1 _ _ (by omega), f6.1 _ _ (by omega), f5.1 _ _ (by omega), f4.1 _ _ (by omega), g13.1 _ _ (by omega)]; exact i6 j hj
theorem r_restore0 (h52 : s.1 419 52 = 0) : fX12_restore N 419 (mk s) = some (.inl 0, mk (sI s 419 2 0)) := by
  unfold fX12_restore bX12_restore_0
  have k52 : (sI s 419 2 0).1 419 52 = 0 := by rw [sI_1, if_neg (by omega)]; exact h52
  rw [pI12 2 rfl, ob_s, gI12 52 rfl, ob_s, k52, if_neg (by decide), rZ_0]
/-! scenes stay good -/
theorem WS_take (W : Wp P n D mv) (Z : WS n D S) (hk : k < n) : WS n D (pTake P D S k).2 := by
  unfold pTake
  by_cases c : nowN S.1 < D ∧ sWhy P S.1 S.2.1 D k (nowN S.1) = 0
  · rw [if_pos c]
    exact WS_kp _ Z (tk_ok W Z.1 hk (why0 W hk c.1 c.2).1 _).1
  · rw [if_neg c]; exact Z
theorem WS_move (W : Wp P n D mv) (Z : WS n D S) : WS n D (pMove D mv S on).2 := by
  unfold pMove
  have hD := W.2.2.2.1
  have hmv := W.2.2.2.2.2.1
  obtain ⟨⟨h0, h0'⟩, _⟩ := Ws_n Z.1 W.1 W.2.2.2.1
  by_cases c : ¬ S.1 1 = sk_i on ∧ S.1 0 + nI mv ≤ nI D
  · rw [if_pos c]
    have c2 := c.2
    rw [h0, nI_add] at c2
    have hle : nowN S.1 + mv ≤ D := Nat.le_of_not_lt fun g => nI_ge g (by omega) c2
    exact WS_kp _ Z (mv_ok W Z.1 hle).1
  · rw [if_neg c]; exact Z
theorem WS_await {x : Int32} (W : Wp P n D mv) (Z : WS n D S) : WS n D (pAwait D S x).2 := by
  unfold pAwait
  have hD := W.2.2.2.1
  obtain ⟨⟨h0, h0'⟩, _⟩ := Ws_n Z.1 W.1 W.2.2.2.1
  by_cases c : ¬ x < 1 ∧ ¬ (60 : Int32) < x ∧ S.1 0 + x ≤ nI D
  · rw [if_pos c]
    obtain ⟨w, hw, rfl⟩ : ∃ w, w ≤ 60 ∧ x = nI w := (in_rng (x := x) (b := 60) (by omega)).mp ⟨Int32.le_trans (by decide) (Int32.not_lt.mp c.1), Int32.not_lt.mp c.2.1⟩
    have c2 := c.2.2
    rw [h0, nI_add] at c2
    have hle : nowN S.1 + w ≤ D := Nat.le_of_not_lt fun g => nI_ge g (by omega) c2
    exact WS_kp _ Z (wt_ok W Z.1 hle).1
  · rw [if_neg c]; exact Z
theorem WS_sets (Z : WS n D S) (hw : w ≤ 1) : WS n D (pSets S w on).2 := WS_kp _ Z (Ws_on Z.1 w on (by omega)).1
theorem WS_clouds (Z : WS n D S) : WS n D (pClouds S u v on).2 := WS_kp _ Z Z.1
theorem WS_forget (Z : WS n D S) : WS n D (pForget S) := ⟨Z.1, Z.2.1, Z.2.2.1, Nat.zero_le _, fun i hi => absurd hi (Nat.not_lt_zero i)⟩
end RI
