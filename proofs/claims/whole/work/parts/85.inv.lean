/- needs: 84.init2 -/
/-! what holds between two calls -/
def CI (s : sg) (p : Nat) (P : pln) (n D mv nr : Nat) (q : Nat → Int32) (b : Nat → Nat) (S : scn) (tl : Nat) (T : Nat → Nat) (fp : Int32) (hi : Bool) (S' : scn) : Prop := CM s p P n D mv nr q b S ∧ s.2.1 0 4 = 20 - p ∧ s.1 p 2 = P 0 3 ∧ TpC s tl T ∧ s.1 0 2 = fp ∧ s.1 0 8 = sk_i hi ∧ Pm s 207 ∧ (hi = true → ScC s 207 S')
def RI (s : sg) (P : pln) (nr : Nat) (q : Nat → Int32) (b : Nat → Nat) (S : scn) (tl : Nat) (T : Nat → Nat) (fp : Int32) (hi : Bool) (S' : scn) : Prop := RM s P nr q b S ∧ TpR s tl T ∧ s.1 419 25 = fp ∧ s.1 419 52 = sk_i hi ∧ (hi = true → ImR s S')
def WI (P : pln) (n D mv nr : Nat) (q : Nat → Int32) (b : Nat → Nat) (S : scn) (tl : Nat) (T : Nat → Nat) (hi : Bool) (S' : scn) : Prop := Wp P n D mv ∧ Wa P n ∧ Wr nr q b ∧ WS n D S ∧ tl ≤ 700 ∧ (∀ j, j < tl → T j < 256) ∧ (hi = true → WS n D S')
def Inv (s : sg) : Prop := ∃ p P n D mv nr q b S tl T fp hi S', CI s p P n D mv nr q b S tl T fp hi S' ∧ RI s P nr q b S tl T fp hi S' ∧ WI P n D mv nr q b S tl T hi S'
def loF (x _j : Nat) : Prop := x < 419
def hiF (x _j : Nat) : Prop := 419 ≤ x
theorem cQ_lo (x j : Nat) (h : cQ x j) : loF x j := by unfold cQ at h; unfold loF; omega
theorem cM_lo (x j : Nat) (h : cM x j) : loF x j := by unfold cM cQ at h; unfold loF; omega
theorem cI_lo (x j : Nat) (h : cI x j) : loF x j := by unfold cI at h; unfold loF; omega
theorem rQ_hi (x j : Nat) (h : rQ x j) : hiF x j := by unfold rQ at h; unfold hiF; omega
theorem rS_hi (x j : Nat) (h : rS x j) : hiF x j := by unfold rS rQ at h; unfold hiF; omega
theorem rM_hi (x j : Nat) (h : rM x j) : hiF x j := by unfold rM rS rQ at h; unfold hiF; omega
theorem rI_hi (x j : Nat) (h : rI x j) : hiF x j := by unfold rI at h; unfold hiF; omega
section IV
variable {s s' : sg} {p : Nat} {P : pln} {n D mv nr : Nat} {q : Nat → Int32} {b : Nat → Nat} {S S2 : scn} {tl : Nat} {T : Nat → Nat} {fp : Int32} {hi : Bool} {S' : scn}
theorem CI_m (W : WI P n D mv nr q b S tl T hi S') (h : CI s p P n D mv nr q b S tl T fp hi S') (f : Fr cM s s') (hM : CM s' p P n D mv nr q b S2) : CI s' p P n D mv nr q b S2 tl T fp hi S' := by
  obtain ⟨h1, h2, h3, h4, h5, h6, h7, h8⟩ := h
  have hp' : p = 2 ∨ p = 18 := h1.1.1.1
  have no : ∀ x j, x < 6 ∨ (18 ≤ x ∧ x < 22) ∨ (207 ≤ x ∧ x < 377) → ¬ cM x j := fun x j hx g => by unfold cM cQ at g; omega
  exact ⟨hM, (f.2.1 _ _ (no _ _ (by omega))).trans h2, (f.1 _ _ (no _ _ (by omega))).trans h3, ⟨(f.1 _ _ (no _ _ (by omega))).trans h4.1, fun j hj => (f.1 _ _ (no _ _ (by omega))).trans (h4.2 j hj)⟩, (f.1 _ _ (no _ _ (by omega))).trans h5, (f.1 _ _ (no _ _ (by omega))).trans h6, Pm_fr h7 f (fun j => no _ _ (by omega)), fun e => ScC_fr (h8 e) (W.2.2.2.2.2.2 e).2.1 f (fun x j g1 g2 => no _ _ (by omega))⟩
theorem CI_q (W : WI P n D mv nr q b S tl T hi S') (h : CI s p P n D mv nr q b S tl T fp hi S') (f : Fr cQ s s') : CI s' p P n D mv nr q b S tl T fp hi S' :=
  CI_m W h (Fr_m f (fun x j g => Or.inl g)) (CM_q h.1 W.1.1 W.2.2.2.1.2.1 f)
theorem CI_hi (W : WI P n D mv nr q b S tl T hi S') (h : CI s p P n D mv nr q b S tl T fp hi S') (f : Fr hiF s s') : CI s' p P n D mv nr q b S tl T fp hi S' := by
  obtain ⟨h1, h2, h3, h4, h5, h6, h7, h8⟩ := h
  have hp' : p = 2 ∨ p = 18 := h1.1.1.1
  have no : ∀ x j, x < 419 → ¬ hiF x j := fun x j hx g => by unfold hiF at g; omega
  have hS := SAt_fr h1.2.2.1 f (fun x j g1 g2 => no x j (by omega))
  exact ⟨⟨CR2_g h1.1 W.1.1 f (fun x j g => no x j (by omega)) hS, ScC_fr h1.2 W.2.2.2.1.2.1 f (fun x j g1 g2 => no x j (by omega))⟩, (f.2.1 _ _ (no _ _ (by omega))).trans h2, (f.1 _ _ (no _ _ (by omega))).trans h3, ⟨(f.1 _ _ (no _ _ (by omega))).trans h4.1, fun j hj => (f.1 _ _ (no _ _ (by omega))).trans (h4.2 j hj)⟩, (f.1 _ _ (no _ _ (by omega))).trans h5, (f.1 _ _ (no _ _ (by omega))).trans h6, Pm_fr h7 f (fun j => no _ _ (by omega)), fun e => ScC_fr (h8 e) (W.2.2.2.2.2.2 e).2.1 f (fun x j g1 g2 => no _ _ (by omega))⟩
theorem RI_m (h : RI s P nr q b S tl T fp hi S') (f : Fr rM s s') (hM : RM s' P nr q b S2) : RI s' P nr q b S2 tl T fp hi S' := by
  obtain ⟨h1, h2, h3, h4, h5⟩ := h
  have no : ∀ x j, x = 434 ∨ (447 ≤ x ∧ x ≤ 452) ∨ (x = 419 ∧ (j = 16 ∨ j = 25 ∨ j = 52 ∨ j = 53 ∨ j = 54)) → ¬ rM x j := fun x j hx g => by unfold rM rS rQ at g; omega
  exact ⟨hM, ⟨(f.1 _ _ (no _ _ (by omega))).trans h2.1, fun j hj => (f.1 _ _ (no _ _ (by omega))).trans (h2.2 j hj)⟩, (f.1 _ _ (no _ _ (by omega))).trans h3, (f.1 _ _ (no _ _ (by omega))).trans h4, fun e => ImR_fr (h5 e) f (fun x j g => no _ _ (by omega))⟩
theorem RI_q (h : RI s P nr q b S tl T fp hi S') (f : Fr rQ s s') : RI s' P nr q b S tl T fp hi S' := RI_m h (Fr_m f (fun x j g => Or.inl (Or.inl g))) (RM_q h.1 f)
theorem RI_s (h : RI s P nr q b S tl T fp hi S') (f : Fr rS s s') (hu : RU2 s' P nr q b S.1 S.2.1) : RI s' P nr q b S tl T fp hi S' := by
  have no : ∀ x j, x = 436 ∨ x = 433 ∨ (443 ≤ x ∧ x ≤ 445) ∨ (x = 419 ∧ (j = 28 ∨ j = 29)) → ¬ rS x j := fun x j hx g => by unfold rS rQ at g; omega
  refine RI_m h (Fr_m f (fun x j g => Or.inl g)) ⟨hu, HsR_fr h.1.2.1 f (no _ _ (by omega)) (fun j => no _ _ (by omega)), SnR_fr h.1.2.2.1 f (no _ _ (by omega)) (fun x j g1 g2 => no _ _ (by omega)), fun j hj => (f.1 _ _ (no _ _ (by omega))).trans (h.1.2.2.2 j hj)⟩
theorem RI_lo (h : RI s P nr q b S tl T fp hi S') (f : Fr loF s s') : RI s' P nr q b S tl T fp hi S' := by
  obtain ⟨h1, h2, h3, h4, h5⟩ := h
  have no : ∀ x j, 419 ≤ x → ¬ loF x j := fun x j hx g => by unfold loF at g; omega
  have hM : RM s' P nr q b (S.1, S.2.1, S.2.2) := RM_g h1 f (fun x j g => no _ _ (by unfold rP at g; omega)) (fun j hj => (f.1 _ _ (no _ _ (by omega))).trans (h1.1.1.2.1 j hj)) (fun m hm => (f.1 _ _ (no _ _ (by omega))).trans (h1.1.1.2.2 m hm))
  exact ⟨hM, ⟨(f.1 _ _ (no _ _ (by omega))).trans h2.1, fun j hj => (f.1 _ _ (no _ _ (by omega))).trans (h2.2 j hj)⟩, (f.1 _ _ (no _ _ (by omega))).trans h3, (f.1 _ _ (no _ _ (by omega))).trans h4, fun e => ImR_fr (h5 e) f (fun x j g => no _ _ (by omega))⟩
/-- the out row may change as it likes -/
theorem CI_L (h : CI s p P n D mv nr q b S tl T fp hi S') (j : Nat) (x : Int64) : CI (sL s j x) p P n D mv nr q b S tl T fp hi S' := h
theorem RI_L (h : RI s P nr q b S tl T fp hi S') (j : Nat) (x : Int64) : RI (sL s j x) P nr q b S tl T fp hi S' := h
end IV
/-! the shapes of the law's cases -/
def lwN {α : Type} (eq : α → α → mm_C → mR Int32 → mR Int32) (F G : mm_C → mR α) (k : mm_C → mR Int32) (c : mm_C) : mR Int32 := cV 11 0 c (F c) fun r1 c2 => cV 12 419 c2 (G c2) fun r3 c4 => eq r1 r3 c4 (k c4)
def lwT {α : Type} (N : Nat) (cv : α → Int64) (ex : Nat → mm_C → mR Int32) (F G : mm_C → mR α) (k : mm_C → mR Int32) (c : mm_C) : mR Int32 :=
  cS (cX 11 0 c (F c) (fun r3 c4 => Option.bind (tL c4 453 (0 : Int32) (cv r3)) fun c7 => some (.inl (0 : Int32), c7)) ex) fun r2 c3 => cV 12 419 c3 (G c3) fun r5 c6 => cV 12 419 c6 (fX12_thrown N 419 c6) fun r7 c8 => if r7 = r2 then (if ¬ r2 = 0 then (k c8) else (Option.bind (aL c8 453 (0 : Int32)) fun x9 => if (lg_cmp x9 (cv r5)) = 0 then (k c8) else (rZ (0 : Int32) c8))) else (rZ (0 : Int32) c8)
theorem lg_self (x : Int64) : lg_cmp x x = 0 := by
  unfold lg_cmp
  rw [if_neg (by rw [gt_iff_lt, Int64.lt_iff_toInt_lt]; omega), if_pos rfl]
section LWS
variable {α : Type} {N : Nat} {s : sg} {F G : mm_C → mR α}
theorem cV11 {β γ : Type} {s : sg} {x : mR β} {f : β → mm_C → mR γ} : cV 11 0 (mk s) x f = cS x f := cV_k ⟨rfl, by decide⟩
theorem lwT_ok {cv : α → Int64} {ex : Nat → mm_C → mR Int32} {s1 s3 : sg} {r : α} (h1 : F (mk s) = some (.inl r, mk s1)) (h2 : G (mk (sL s1 0 (cv r))) = some (.inl r, mk s3)) (h3 : s3.1 419 2 = 0) (h4 : s3.2.2 = (sL s1 0 (cv r)).2.2) (k : mm_C → mR Int32) : lwT N cv ex F G k (mk s) = k (mk s3) := by
  have t1 : tL (mk s1) 453 (0 : Int32) (cv r) = some (mk (sL s1 0 (cv r))) := tL_mk (i := 0) (by decide)
  have a1 : aL (mk s3) 453 (0 : Int32) = some (cv r) := by
    rw [aL_mk (i := 0) (n := 1) rfl (by decide), h4]
    rfl
  unfold lwT
  rw [cX_mk (a := 0) (ci := 11) rfl (by decide), h1]
  show cS (Option.bind (tL (mk s1) 453 (0 : Int32) (cv r)) fun c7 => some (Sum.inl (0 : Int32), c7)) _ = _
  rw [t1, ob_s, cS_l, cV12, h2, cS_l, cV12, m_thrown, cS_l, h3, if_pos rfl, if_neg (fun z => z rfl), a1, ob_s, lg_self, if_pos rfl]
theorem lwT_ex {cv : α → Int64} {ex : Nat → mm_C → mR Int32} {s1 s3 : sg} {e t : Nat} {r : α} (h1 : F (mk s) = some (.inr e, mk s1)) (hx : ex e (mk s1) = some (.inl (nI t), mk s1)) (h2 : G (mk s1) = some (.inl r, mk s3)) (h3 : s3.1 419 2 = nI t) (ht : 1 ≤ t ∧ t ≤ 4) (k : mm_C → mR Int32) : lwT N cv ex F G k (mk s) = k (mk s3) := by
  unfold lwT
  rw [cX_mk (a := 0) (ci := 11) rfl (by decide), h1]
  show cS (ex e (mk s1)) _ = _
  rw [hx, cS_l, cV12, h2, cS_l, cV12, m_thrown, cS_l, h3, if_pos rfl, if_pos (nI_b ht.1 ht.2)]
theorem lwN_ok {eq : α → α → mm_C → mR Int32 → mR Int32} (he : ∀ r c x, eq r r c x = x) {s1 s3 : sg} {r : α} (h1 : F (mk s) = some (.inl r, mk s1)) (h2 : G (mk s1) = some (.inl r, mk s3)) (k : mm_C → mR Int32) : lwN eq F G k (mk s) = k (mk s3) := by
  unfold lwN
  rw [cV11, h1, cS_l, cV12, h2, cS_l, he]
end LWS
def eqI (a b : Int32) (c : mm_C) (x : mR Int32) : mR Int32 := if a = b then x else rZ (0 : Int32) c
def eqU (_ _ : Unit) (_ : mm_C) (x : mR Int32) : mR Int32 := x
theorem eqI_r (r : Int32) (c : mm_C) (x : mR Int32) : eqI r r c x = x := by unfold eqI; rw [if_pos rfl]
theorem eqU_r (r : Unit) (c : mm_C) (x : mR Int32) : eqU r r c x = x := rfl
def exA (e : Nat) (c : mm_C) : mR Int32 := if e = 1 then (some (.inl (1 : Int32), c)) else (none)
def exB (e : Nat) (c : mm_C) : mR Int32 := if e = 0 then (some (.inl (1 : Int32), c)) else (none)
def exC (e : Nat) (c : mm_C) : mR Int32 := if e = 1 then (some (.inl (1 : Int32), c)) else (if e = 0 then (some (.inl (2 : Int32), c)) else (none))
/-- a step of both keeps what holds, and goes on -/
def StpI (B : (mm_C → mR Int32) → mm_C → mR Int32) : Prop := ∀ s, Inv s → ∃ s', Inv s' ∧ ∀ k, B k (mk s) = k (mk s')
section LWI
variable {α : Type} {N : Nat} {s : sg} {F G : mm_C → mR α} {p p2 : Nat} {P P2 : pln} {n D mv nr n2 D2 mv2 nr2 : Nat} {q q2 : Nat → Int32} {b b2 : Nat → Nat} {S S2 : scn} {tl tl2 : Nat} {T T2 : Nat → Nat} {fp fp2 : Int32} {hi hi2 : Bool} {S' S3 : scn}
theorem gT_ok {cv : α → Int64} {ex : Nat → mm_C → mR Int32} {r : α} (hR0 : RI s P nr q b S tl T fp hi S') (W2 : WI P2 n2 D2 mv2 nr2 q2 b2 S2 tl2 T2 hi2 S3) (hC : ∃ s1, F (mk s) = some (.inl r, mk s1) ∧ CI s1 p2 P2 n2 D2 mv2 nr2 q2 b2 S2 tl2 T2 fp2 hi2 S3 ∧ Fr loF s s1) (hR : ∀ s, RI s P nr q b S tl T fp hi S' → ∃ s3, G (mk s) = some (.inl r, mk s3) ∧ s3.1 419 2 = 0 ∧ RI s3 P2 nr2 q2 b2 S2 tl2 T2 fp2 hi2 S3 ∧ Fr hiF s s3) : ∃ s', Inv s' ∧ ∀ k, lwT N cv ex F G k (mk s) = k (mk s') := by
  obtain ⟨s1, a1, a2, a3⟩ := hC
  obtain ⟨s3, b1, b2', b3, b4⟩ := hR (sL s1 0 (cv r)) (RI_L (RI_lo hR0 a3) _ _)
  exact ⟨s3, ⟨_, _, _, _, _, _, _, _, _, _, _, _, _, _, CI_hi W2 (CI_L a2 _ _) b4, b3, W2⟩, lwT_ok a1 b1 b2' b4.2.2⟩
theorem gT_ex {cv : α → Int64} {ex : Nat → mm_C → mR Int32} {e t : Nat} {r : α} (W : WI P n D mv nr q b S tl T hi S') (hC0 : CI s p P n D mv nr q b S tl T fp hi S') (hR0 : RI s P nr q b S tl T fp hi S') (hC : ∃ s1, F (mk s) = some (.inr e, mk s1) ∧ Fr cQ s s1) (hx : ∀ c, ex e c = some (.inl (nI t), c)) (ht : 1 ≤ t ∧ t ≤ 4) (hR : ∀ s, RI s P nr q b S tl T fp hi S' → ∃ s3, G (mk s) = some (.inl r, mk s3) ∧ s3.1 419 2 = nI t ∧ Fr rQ s s3) : ∃ s', Inv s' ∧ ∀ k, lwT N cv ex F G k (mk s) = k (mk s') := by
  obtain ⟨s1, a1, a3⟩ := hC
  have r1 := RI_lo hR0 (Fr_m a3 cQ_lo)
  obtain ⟨s3, b1, b2', b4⟩ := hR s1 r1
  exact ⟨s3, ⟨_, _, _, _, _, _, _, _, _, _, _, _, _, _, CI_hi W (CI_q W hC0 a3) (Fr_m b4 rQ_hi), RI_q r1 b4, W⟩, lwT_ex a1 (hx _) b1 b2' ht⟩
theorem gN_ok {eq : α → α → mm_C → mR Int32 → mR Int32} (he : ∀ r c x, eq r r c x = x) {r : α} (hR0 : RI s P nr q b S tl T fp hi S') (W2 : WI P2 n2 D2 mv2 nr2 q2 b2 S2 tl2 T2 hi2 S3) (hC : ∃ s1, F (mk s) = some (.inl r, mk s1) ∧ CI s1 p2 P2 n2 D2 mv2 nr2 q2 b2 S2 tl2 T2 fp2 hi2 S3 ∧ Fr loF s s1) (hR : ∀ s, RI s P nr q b S tl T fp hi S' → ∃ s3, G (mk s) = some (.inl r, mk s3) ∧ RI s3 P2 nr2 q2 b2 S2 tl2 T2 fp2 hi2 S3 ∧ Fr hiF s s3) : ∃ s', Inv s' ∧ ∀ k, lwN eq F G k (mk s) = k (mk s') := by
  obtain ⟨s1, a1, a2, a3⟩ := hC
  obtain ⟨s3, b1, b3, b4⟩ := hR s1 (RI_lo hR0 a3)
  exact ⟨s3, ⟨_, _, _, _, _, _, _, _, _, _, _, _, _, _, CI_hi W2 a2 b4, b3, W2⟩, lwN_ok he a1 b1⟩
/-- a class's question changes nothing that counts -/
theorem cq_C {r : α} (W : WI P n D mv nr q b S tl T hi S') (hC0 : CI s p P n D mv nr q b S tl T fp hi S') (h : ∃ s1, F (mk s) = some (.inl r, mk s1) ∧ Fr cQ s s1) : ∃ s1, F (mk s) = some (.inl r, mk s1) ∧ CI s1 p P n D mv nr q b S tl T fp hi S' ∧ Fr loF s s1 := by
  obtain ⟨s1, a1, a2⟩ := h
  exact ⟨s1, a1, CI_q W hC0 a2, Fr_m a2 cQ_lo⟩
theorem cm_C {r : α} (W : WI P n D mv nr q b S tl T hi S') (hC0 : CI s p P n D mv nr q b S tl T fp hi S') (h : ∃ s1, F (mk s) = some (.inl r, mk s1) ∧ CM s1 p P n D mv nr q b S2 ∧ Fr cM s s1) : ∃ s1, F (mk s) = some (.inl r, mk s1) ∧ CI s1 p P n D mv nr q b S2 tl T fp hi S' ∧ Fr loF s s1 := by
  obtain ⟨s1, a1, a2, a3⟩ := h
  exact ⟨s1, a1, CI_m W hC0 a3 a2, Fr_m a3 cM_lo⟩
theorem rq_R {r : α} (h0 : RI s P nr q b S tl T fp hi S') (h : ∃ s3, G (mk s) = some (.inl r, mk s3) ∧ s3.1 419 2 = 0 ∧ Fr rQ s s3) : ∃ s3, G (mk s) = some (.inl r, mk s3) ∧ s3.1 419 2 = 0 ∧ RI s3 P nr q b S tl T fp hi S' ∧ Fr hiF s s3 := by
  obtain ⟨s3, a1, a2, a3⟩ := h
  exact ⟨s3, a1, a2, RI_q h0 a3, Fr_m a3 rQ_hi⟩
theorem rs_R {r : α} (h0 : RI s P nr q b S tl T fp hi S') (h : ∃ s3, G (mk s) = some (.inl r, mk s3) ∧ s3.1 419 2 = 0 ∧ RU2 s3 P nr q b S.1 S.2.1 ∧ Fr rS s s3) : ∃ s3, G (mk s) = some (.inl r, mk s3) ∧ s3.1 419 2 = 0 ∧ RI s3 P nr q b S tl T fp hi S' ∧ Fr hiF s s3 := by
  obtain ⟨s3, a1, a2, a4, a3⟩ := h
  exact ⟨s3, a1, a2, RI_s h0 a3 a4, Fr_m a3 rS_hi⟩
theorem rm_R {r : α} (h0 : RI s P nr q b S tl T fp hi S') (h : ∃ s3, G (mk s) = some (.inl r, mk s3) ∧ s3.1 419 2 = 0 ∧ RM s3 P nr q b S2 ∧ Fr rM s s3) : ∃ s3, G (mk s) = some (.inl r, mk s3) ∧ s3.1 419 2 = 0 ∧ RI s3 P nr q b S2 tl T fp hi S' ∧ Fr hiF s s3 := by
  obtain ⟨s3, a1, a2, a4, a3⟩ := h
  exact ⟨s3, a1, a2, RI_m h0 a3 a4, Fr_m a3 rM_hi⟩
theorem r0_R {r : α} (h : G (mk s) = some (.inl r, mk (sI s 419 2 0))) : ∃ s3, G (mk s) = some (.inl r, mk s3) ∧ s3.1 419 2 = 0 ∧ Fr rQ s s3 := ⟨_, h, sI_at _ _ _ _, Fr_sI (by unfold rQ; omega)⟩
theorem r1_R {r : α} {t : Nat} (h : G (mk s) = some (.inl r, mk (sI (sI s 419 2 0) 419 2 (nI t)))) : ∃ s3, G (mk s) = some (.inl r, mk s3) ∧ s3.1 419 2 = nI t ∧ Fr rQ s s3 := ⟨_, h, sI_at _ _ _ _, Fr_t (Fr_sI (by unfold rQ; omega)) (Fr_sI (by unfold rQ; omega))⟩
theorem c0_C {e : Nat} (h : F (mk s) = some (.inr e, mk s)) : ∃ s1, F (mk s) = some (.inr e, mk s1) ∧ Fr cQ s s1 := ⟨s, h, Fr_r _ _⟩
end LWI
