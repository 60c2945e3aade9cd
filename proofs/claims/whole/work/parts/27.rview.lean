/- needs: 26.cshot -/
/-! the reference's cells, as a plan P, a state st, a sky K, a day's end E -/
def eqP (P P' : pln) (k : Nat) : Prop := ∀ f, f ≤ 6 → P f k = P' f k
def eqS (st st' : Nat → Int32) : Prop := ∀ j, j < 15 → st j = st' j
section RX
variable {P P' : pln} {st st' : Nat → Int32} {K : Nat → Bool} {k : Nat}
theorem sLt_ex (h : eqP P P' k) (hs : eqS st st') (m : Nat) : sLt P st K k m = sLt P' st' K k m := by
  unfold sLt
  rw [h 1 (by omega), hs 5 (by omega), hs 6 (by omega)]
theorem sLit_ex (h : eqP P P' k) (hs : eqS st st') (m : Nat) : sLit P st K k m = sLit P' st' K k m := by
  unfold sLit
  rw [h 1 (by omega), h 2 (by omega), sLt_ex h hs]
theorem sMin_ex (h : eqP P P' k) (hs : eqS st st') (D m : Nat) : sMin P st K D k m = sMin P' st' K D k m := by
  unfold sMin
  rw [h 3 (by omega), h 4 (by omega), h 5 (by omega), sLit_ex h hs]
theorem sWhy_ex (h : eqP P P' k) (hs : eqS st st') (D m : Nat) : sWhy P st K D k m = sWhy P' st' K D k m := by
  unfold sWhy
  rw [h 1 (by omega), h 6 (by omega), hs 1 (by omega), hs 2 (by omega), sMin_ex h hs]
theorem sEnd_ex (h : eqP P P' k) (hs : eqS st st') (m : Nat) : ∀ f i, sEnd P st K k m f i = sEnd P' st' K k m f i
  | 0, _ => rfl
  | f + 1, i => by rw [sEnd_s, sEnd_s, sLt_ex h hs, sLt_ex h hs, sEnd_ex h hs m f]
theorem sGo_ex (h : eqP P P' k) (hs : eqS st st') (m : Nat) : ∀ f i, sGo P st K k m f i = sGo P' st' K k m f i
  | 0, _ => rfl
  | f + 1, i => by rw [sGo_s, sGo_s, sLt_ex h hs, sLt_ex h hs, sGo_ex h hs m f]
theorem sEn_ex (h : eqP P P' k) (hs : eqS st st') (D m ℓ : Nat) : sEn P st K D k m ℓ = sEn P' st' K D k m ℓ := by
  unfold sEn
  rw [sEnd_ex h hs]
theorem sCan_ex (h : eqP P P' k) (hs : eqS st st') (D m ℓ : Nat) : sCan P st K D k m ℓ = sCan P' st' K D k m ℓ := by
  unfold sCan
  rw [h 4 (by omega), h 5 (by omega), sLit_ex h hs, sEn_ex h hs]
theorem okL_ex (h : eqP P P' k) {ℓ : Nat} (hl : okL P' k ℓ) : okL P k ℓ := ⟨(h 3 (by omega)).trans hl.1, hl.2⟩
end RX
def ln (P : pln) (k : Nat) : Nat := (P 3 k).toNatClampNeg
def fm (P : pln) (k : Nat) : Nat := (P 4 k).toNatClampNeg
def un (P : pln) (k : Nat) : Nat := (P 5 k).toNatClampNeg
/-- a good plan: n shots, a day of D minutes, moving takes mv -/
def Wp (P : pln) (n D mv : Nat) : Prop := n ≤ 8 ∧ P 0 0 = nI n ∧ 10 ≤ D ∧ D ≤ 480 ∧ P 0 1 = nI D ∧ mv ≤ 120 ∧ P 0 2 = nI mv ∧ ∀ k, k < n → okS P k ∧ okL P k (ln P k) ∧ (P 4 k = nI (fm P k) ∧ fm P k ≤ 480) ∧ (P 5 k = nI (un P k) ∧ un P k ≤ 480) ∧ (P 6 k = -1 ∨ ∃ j, j < 8 ∧ P 6 k = nI j)
/-- a good state -/
def Ws (st : Nat → Int32) (n D : Nat) : Prop := (∃ m, m ≤ D ∧ st 0 = nI m) ∧ (st 1 = 0 ∨ st 1 = 1) ∧ (∃ h, h < 2 ^ n ∧ st 2 = nI h) ∧ bz st
def RV (s : sg) (P : pln) (st : Nat → Int32) (K : Nat → Bool) (E : Nat) : Prop := (∀ f k, f ≤ 6 → k < 8 → s.1 (422 + f) k = P f k) ∧ (∀ j, j < 15 → s.1 435 j = st j) ∧ mSky s K ∧ s.1 419 30 = nI E
section RY
variable {N : Nat} {s : sg} {P : pln} {st : Nat → Int32} {K : Nat → Bool} {E n D mv k m : Nat}
theorem RV_p (h : RV s P st K E) (hk : k < 8) : eqP (mPl s) P k := fun f hf => h.1 f k hf hk
theorem RV_s (h : RV s P st K E) : eqS (s.1 435) st := h.2.1
theorem RV_fr {Q : Nat → Nat → Prop} {s' : sg} (h : RV s P st K E) (f : Fr Q s s') (h1 : ∀ a j, 422 ≤ a → a ≤ 429 → ¬ Q a j) (h2 : ∀ j, ¬ Q 435 j) (h3 : ¬ Q 419 30) : RV s' P st K E :=
  ⟨fun g k hg hk => (f.1 _ _ (h1 _ _ (by omega) (by omega))).trans (h.1 g k hg hk), fun j hj => (f.1 _ _ (h2 _)).trans (h.2.1 j hj), fun m hm => (f.1 _ _ (h1 _ _ (by omega) (by omega))).trans (h.2.2.1 m hm), (f.1 _ _ h3).trans h.2.2.2⟩
theorem r_stays (hN : 1000 ≤ N) (h : RV s P st K E) (hE : E ≤ 480) (hm : m < E) : fX12_staysFor N 419 (nI m) (mk s) = some (.inl (nI (stays K E m)), mk s) := m_staysFor hN h.2.2.1 h.2.2.2 hE hm
theorem r_why (h : RV s P st K E) (hk : k < 8) (hm : m < 480) : fX12_whyNow N 419 (nI k) (nI m) (mk s) = some (.inl (sWhy P st K E k m), mk s) := by
  rw [m_whyNow h.2.2.1 h.2.2.2 (by omega) hm, sWhy_ex (RV_p h hk) (RV_s h)]
theorem r_can (hN : 1000 ≤ N) (W : Wp P n D mv) (h : RV s P st K E) (hE : E ≤ 480) (hk : k < n) (hm : m < 480) : fX12_canBeHad N 419 (nI k) (nI m) (mk s) = some (.inl (sk_i (sCan P st K E k m (ln P k))), mk s) := by
  have hk8 : k < 8 := by have := W.1; omega
  have hw := W.2.2.2.2.2.2.2 k hk
  rw [m_canBeHad hN h.2.2.1 h.2.2.2 hE (by omega) (okL_ex (RV_p h hk8) hw.2.1) hm, sCan_ex (RV_p h hk8) (RV_s h)]
theorem r_takes (hN : 1000 ≤ N) (W : Wp P n D mv) (h : RV s P st K E) (hE : E ≤ 480) (hk : k < n) (hm : m + ln P k ≤ E) (hnow : st 0 = nI m) : fX12_takes N 419 (nI k) (mk s) = some (.inl (sk_i (sEn P st K E k m (ln P k))), mk (sA s 435 (sTk (s.1 435) k (sGo P st K k m (ln P k - 1) 1) (sEn P st K E k m (ln P k))))) := by
  have hk8 : k < 8 := by have := W.1; omega
  have hw := W.2.2.2.2.2.2.2 k hk
  rw [m_takes hN h.2.2.1 h.2.2.2 hE hk8 (okL_ex (RV_p h hk8) hw.2.1) hm ((h.2.1 0 (by omega)).trans hnow), sEn_ex (RV_p h hk8) (RV_s h), sGo_ex (RV_p h hk8) (RV_s h)]
end RY
theorem sTk_ex {st st' : Nat → Int32} (h : eqS st st') {k n : Nat} (hk : k < 8) (b : Bool) : eqS (sTk st k n b) (sTk st' k n b) := by
  intro j hj
  unfold sTk
  rw [h 0 (by omega), h 4 (by omega), h 2 (by omega), h j hj, h (7 + k) (by omega)]
theorem sMv_ex {st st' : Nat → Int32} (h : eqS st st') (v : Int32) : eqS (sMv st v) (sMv st' v) := by
  intro j hj
  unfold sMv
  rw [h 0 (by omega), h 1 (by omega), h j hj]
theorem sWt_ex {st st' : Nat → Int32} (h : eqS st st') (v : Int32) : eqS (sWt st v) (sWt st' v) := by
  intro j hj
  unfold sWt
  rw [h 0 (by omega), h 3 (by omega), h j hj]
theorem sOn_ex {st st' : Nat → Int32} (h : eqS st st') (w : Nat) (b : Bool) : eqS (sOn st w b) (sOn st' w b) := by
  intro j hj
  unfold sOn
  rw [h j hj]
