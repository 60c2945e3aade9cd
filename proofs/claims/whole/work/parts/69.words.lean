/- needs: 68.num2 -/
/-! words and signs, both sides -/
def tw (T : Nat → Nat) : Nat → Nat → List Nat
  | 0, _ => []
  | n + 1, a => T a :: tw T n (a + 1)
theorem tw_s (T : Nat → Nat) (n a : Nat) : tw T (n + 1) a = T a :: tw T n (a + 1) := rfl
theorem tw_len (T : Nat → Nat) : ∀ n a, (tw T n a).length = n
  | 0, _ => rfl
  | n + 1, a => by rw [tw_s, List.length_cons, tw_len T n]
/-- char i of string o -/
def sCr (o i : Nat) : Int32 := (mm_sb.getD o []).getD i 0
def sw (o : Nat) : Nat → Nat → List Nat
  | 0, _ => []
  | n + 1, i => (sCr o i).toNatClampNeg :: sw o n (i + 1)
theorem sw_s (o n i : Nat) : sw o (n + 1) i = (sCr o i).toNatClampNeg :: sw o n (i + 1) := rfl
theorem sw_len (o : Nat) : ∀ n i, (sw o n i).length = n
  | 0, _ => rfl
  | n + 1, i => by rw [sw_s, List.length_cons, sw_len o n]
def okW (o n : Nat) : Prop := o < 37 ∧ mm_sl.getD o 0 = n ∧ n < 100 ∧ ∀ i, i < n → sCr o i = nI (sCr o i).toNatClampNeg ∧ (sCr o i).toNatClampNeg < 128
theorem okW_2 : okW 2 46 := by unfold okW; decide +kernel
theorem okW_4 : okW 4 5 := by unfold okW; decide +kernel
theorem okW_5 : okW 5 3 := by unfold okW; decide +kernel
theorem okW_6 : okW 6 47 := by unfold okW; decide +kernel
theorem okW_7 : okW 7 3 := by unfold okW; decide +kernel
theorem okW_8 : okW 8 2 := by unfold okW; decide +kernel
theorem okW_k : ∀ i, i < 17 → okW (20 + i) (mm_sl.getD (20 + i) 0) := by unfold okW; decide +kernel
theorem sLn_w {o n : Nat} (h : okW o n) : sLn (1000000 + o) = some (nI n) := by
  have h1 := h.1
  unfold sLn
  rw [if_pos ⟨by omega, by omega⟩, show 1000000 + o - 1000000 = o by omega, h.2.1]
theorem sCh_w {o n i : Nat} (h : okW o n) (hi : i < n) : sCh (1000000 + o) (nI i) = some (sCr o i) := by
  have h1 := h.1
  have h3 := h.2.2.1
  unfold sCh
  rw [show 1000000 + o - 1000000 = o by omega, h.2.1, if_pos ⟨by omega, by omega, inB_A (inA_nI hi (by omega))⟩, nI_clamp (by omega)]
  rfl
theorem cby_a : ∀ v, v < 128 → cby v = nI v := by decide +kernel
theorem cby_b : ∀ v, v < 256 → 128 ≤ v → cby v < 0 := by decide +kernel
theorem nI_p : ∀ w, w < 128 → ¬ nI w < 0 := by decide +kernel
theorem cby_w {v w : Nat} (hv : v < 256) (hw : w < 128) : cby v = nI w ↔ v = w := by
  by_cases c : v < 128
  · rw [cby_a v c]
    exact nI_inj (by omega) (by omega)
  · refine ⟨fun h => ?_, fun h => by omega⟩
    have h2 := cby_b v hv (by omega)
    rw [h] at h2
    exact absurd h2 (nI_p w hw)
theorem nI_ne {k c : Nat} {x : Int32} (hx : x = nI c) (hk : k < 2 ^ 31) (hc : c < 2 ^ 31) (h : ¬ k = c) : ¬ nI k = x := fun z => h ((nI_inj hk hc).mp (z.trans hx))
theorem dcc {x y : Nat} {A B : List Nat} (h : x = y) : decide (A = B) = decide (x :: A = y :: B) := by
  subst h
  simp
theorem rZif (b : Bool) (c : mm_C) : (if sk_i b = 0 then rZ 0 c else rZ 1 c) = some (.inl (sk_i b), c) := by cases b <;> rfl
def ixf (o : Nat) (w : List Nat) : Nat → Nat → Nat → Nat → Int32
  | 0, _, _, _ => -1
  | f + 1, ix, st, i => if sCr o i = 32 then (if w = sw o (i - st) st then nI ix else ixf o w f (ix + 1) (i + 1) (i + 1)) else ixf o w f ix st (i + 1)
theorem ixf_s (o : Nat) (w : List Nat) (f ix st i : Nat) : ixf o w (f + 1) ix st i = if sCr o i = 32 then (if w = sw o (i - st) st then nI ix else ixf o w f (ix + 1) (i + 1) (i + 1)) else ixf o w f ix st (i + 1) := rfl
def wof (o k : Nat) (w : List Nat) : Nat → Nat → Int32
  | 0, _ => -1
  | f + 1, i => if k = 1 ∧ w = sw (o + i) (mm_sl.getD (o + i) 0) 0 then nI i else wof o k w f (i + 1)
theorem wof_s (o k : Nat) (w : List Nat) (f i : Nat) : wof o k w (f + 1) i = if k = 1 ∧ w = sw (o + i) (mm_sl.getD (o + i) 0) 0 then nI i else wof o k w f (i + 1) := rfl
section WD
variable {N : Nat} {s : sg} {L : Nat} {T : Nat → Nat} {o n k a e : Nat}
theorem cV10 {α β : Type} {x : mR α} {f : α → mm_C → mR β} : cV 10 35 (mk s) x f = cS x f := cV_k ⟨rfl, by decide⟩
theorem c_mt20 (hw : okW o n) (hL : L ≤ 700) (hT : ∀ j, j < L → T j < 256) (hX : TxC s L T) (hk : TkC s k a e) (hae : a ≤ e) (he : e ≤ L) {u v : Nat} (hv : v ≤ n) (huv : u ≤ v) (hd : v - u = e - a) : ∀ (f i : Nat), v - i < f → u ≤ i → i ≤ v → lX10_matches_20 N f 35 (1000000 + o) (nI u) (nI v) (nI i) (mk s) = some (.inl (sk_i (decide (tw T (v - i) (a + i - u) = sw o (v - i) i))), mk s) := by
  have h3 := hw.2.2.1
  intro f
  induction f with
  | zero => intro i h; omega
  | succ f ih =>
    intro i hf hui hiv
    show bX10_matches_20 N (lX10_matches_20 N f) 35 (1000000 + o) (nI u) (nI v) (nI i) (mk s) = _
    unfold bX10_matches_20
    by_cases c : v ≤ i
    · rw [if_pos (nI_le c (by omega)), show v - i = 0 by omega, rZ_1]
      rfl
    · obtain ⟨g, hg, hg2⟩ := sub1 (show i < v by omega)
      have h1 : nI a + nI i - nI u = nI (a + i - u) := by rw [nI_add, nI_sub (by omega)]
      obtain ⟨w1, w2⟩ := hw.2.2.2 i (by omega)
      have q := cby_w (v := T (a + i - u)) (hT _ (by omega)) w2
      rw [if_neg (nI_ge (by omega) (by omega)), sCh_w hw (by omega), ob_s, gR10, ob_s, gI10 1 rfl, ob_s, hk.2.1, h1, aB36 (by omega), ob_s, hX.2 _ (by omega), hg, tw_s, sw_s]
      by_cases c2 : T (a + i - u) = (sCr o i).toNatClampNeg
      · rw [if_pos (w1.trans (q.mpr c2).symm), nI_1, ih (i + 1) (by omega) (by omega) (by omega), hg2, show a + (i + 1) - u = a + i - u + 1 by omega, dcc c2]
      · rw [if_neg (fun z => c2 (q.mp (z.symm.trans w1))), rZ_0, decide_eq_false (fun z => c2 (List.cons.inj z).1)]
        rfl
theorem c_matches (hN1 : 1000 ≤ N) (hw : okW o n) (hL : L ≤ 700) (hT : ∀ j, j < L → T j < 256) (hX : TxC s L T) (hk : TkC s k a e) (hae : a ≤ e) (he : e ≤ L) {u v : Nat} (hv : v ≤ n) (huv : u ≤ v) : fX10_matches N 35 (1000000 + o) (nI u) (nI v) (mk s) = some (.inl (sk_i (decide (tw T (e - a) a = sw o (v - u) u))), mk s) := by
  have h3 := hw.2.2.1
  unfold fX10_matches bX10_matches_0
  rw [gI10 4 rfl, ob_s, gI10 1 rfl, ob_s, hk.2.2, hk.2.1, nI_sub huv, nI_sub hae]
  by_cases c : v - u = e - a
  · rw [if_pos (by rw [c]), c_mt20 hw hL hT hX hk hae he hv huv c N u (by omega) (by omega) huv, show a + u - u = a by omega, c]
  · rw [if_neg (fun z => c ((nI_inj (by omega) (by omega)).mp z)), rZ_0, decide_eq_false]
    · rfl
    · intro z
      have z2 := congrArg List.length z
      rw [tw_len, sw_len] at z2
      omega
theorem c_isWord (hN1 : 1000 ≤ N) (hw : okW o n) (hL : L ≤ 700) (hT : ∀ j, j < L → T j < 256) (hX : TxC s L T) (hk : TkC s k a e) (hk4 : k ≤ 4) (hae : a ≤ e) (he : e ≤ L) : fX10_isWord N 35 (1000000 + o) (mk s) = some (.inl (sk_i (decide (k = 1 ∧ tw T (e - a) a = sw o n 0))), mk s) := by
  unfold fX10_isWord bX10_isWord_0
  rw [gI10 0 rfl, ob_s, hk.1]
  by_cases c : k = 1
  · have hm : fX10_matches N 35 (1000000 + o) (0 : Int32) (nI n) (mk s) = some (.inl (sk_i (decide (tw T (e - a) a = sw o n 0))), mk s) := c_matches (u := 0) hN1 hw hL hT hX hk hae he (Nat.le_refl _) (Nat.zero_le _)
    have e1 : decide (k = 1 ∧ tw T (e - a) a = sw o n 0) = decide (tw T (e - a) a = sw o n 0) := by simp [c]
    rw [if_neg (fun z => z (show nI k = (1 : Int32) by rw [c]; rfl)), sLn_w hw, ob_s, cV10, hm, cS_l, rZif, e1]
  · rw [if_pos (nI_ne (c := 1) (x := 1) rfl (by omega) (by omega) c), rZ_0, decide_eq_false (fun z => c z.1)]
    rfl
theorem c_ix17 (hN1 : 1000 ≤ N) (hw : okW o n) (hL : L ≤ 700) (hT : ∀ j, j < L → T j < 256) (hX : TxC s L T) (hk : TkC s k a e) (hae : a ≤ e) (he : e ≤ L) : ∀ (f ix st i : Nat), n - i < f → i ≤ n → st ≤ i → lX10_indexIn_17 N f 35 (1000000 + o) (nI ix) (nI st) (nI i) (mk s) = some (.inl (ixf o (tw T (e - a) a) (n - i) ix st i), mk s) := by
  have h3 := hw.2.2.1
  intro f
  induction f with
  | zero => intro ix st i h; omega
  | succ f ih =>
    intro ix st i hf hi hst
    show bX10_indexIn_17 N (lX10_indexIn_17 N f) 35 (1000000 + o) (nI ix) (nI st) (nI i) (mk s) = _
    unfold bX10_indexIn_17 bX10_indexIn_58 bX10_indexIn_48
    rw [sLn_w hw, ob_s]
    by_cases c : n ≤ i
    · rw [if_pos (nI_le c (by omega)), show n - i = 0 by omega]
      rfl
    · obtain ⟨g, hg, hg2⟩ := sub1 (show i < n by omega)
      rw [if_neg (nI_ge (by omega) (by omega)), sCh_w hw (by omega), ob_s, hg, ixf_s]
      by_cases c2 : sCr o i = 32
      · rw [if_neg (fun z => z c2), if_pos c2, cV10, c_matches hN1 hw hL hT hX hk hae he (show i ≤ n by omega) hst, cS_l]
        by_cases c3 : tw T (e - a) a = sw o (i - st) st
        · rw [if_pos c3, decide_eq_true c3, if_neg (by decide)]
        · rw [if_neg c3, decide_eq_false c3, if_pos (by decide), nI_1, nI_1, ih (ix + 1) (i + 1) (i + 1) (by omega) (by omega) (by omega), hg2]
      · rw [if_pos c2, if_neg c2, nI_1, ih ix st (i + 1) (by omega) (by omega) (by omega), hg2]
theorem c_indexIn (hN1 : 1000 ≤ N) (hw : okW o n) (hL : L ≤ 700) (hT : ∀ j, j < L → T j < 256) (hX : TxC s L T) (hk : TkC s k a e) (hk4 : k ≤ 4) (hae : a ≤ e) (he : e ≤ L) : fX10_indexIn N 35 (1000000 + o) (mk s) = some (.inl (if k = 1 then ixf o (tw T (e - a) a) n 0 0 0 else -1), mk s) := by
  unfold fX10_indexIn bX10_indexIn_0
  rw [gI10 0 rfl, ob_s, hk.1]
  by_cases c : k = 1
  · have h3 := hw.2.2.1
    have hm : lX10_indexIn_17 N N 35 (1000000 + o) (0 : Int32) (0 : Int32) (0 : Int32) (mk s) = some (.inl (ixf o (tw T (e - a) a) n 0 0 0), mk s) := c_ix17 hN1 hw hL hT hX hk hae he N 0 0 0 (by omega) (by omega) (by omega)
    rw [if_pos (show nI k = (1 : Int32) by rw [c]; rfl), if_pos c, hm]
  · rw [if_neg (nI_ne (c := 1) (x := 1) rfl (by omega) (by omega) c), if_neg c]
theorem c_isSign {c : Nat} {x : Int32} (hx : x = nI c) (hc : c < 128) (hL : L ≤ 700) (hT : ∀ j, j < L → T j < 256) (hX : TxC s L T) (hk : TkC s k a e) (hk4 : k ≤ 4) (ha : k = 3 → a < L) : fX10_isSign N 35 x (mk s) = some (.inl (sk_i (decide (k = 3 ∧ T a = c))), mk s) := by
  unfold fX10_isSign bX10_isSign_0
  rw [gI10 0 rfl, ob_s, hk.1]
  by_cases c1 : k = 3
  · have ha := ha c1
    rw [if_neg (fun z => z (show nI k = (3 : Int32) by rw [c1]; rfl)), gR10, ob_s, gI10 1 rfl, ob_s, hk.2.1, aB36 (by omega), ob_s, hX.2 a ha, hx]
    by_cases c2 : T a = c
    · rw [if_neg (fun z => z ((cby_w (hT a ha) hc).mpr c2)), rZ_1, decide_eq_true ⟨c1, c2⟩]
      rfl
    · rw [if_pos (fun z => c2 ((cby_w (hT a ha) hc).mp z)), rZ_0, decide_eq_false (fun z => c2 z.2)]
      rfl
  · rw [if_pos (nI_ne (c := 3) (x := 3) rfl (by omega) (by omega) c1), rZ_0, decide_eq_false (fun z => c1 z.1)]
    rfl
/-! the reference's -/
theorem r_is0 (f v : Nat) (x : Int32) (c : mm_C) : lX12_is_39 N (f + 1) 419 v 0 x c = some (.inl 0, c) := by
  show bX12_is_39 N (lX12_is_39 N f) 419 v 0 x c = _
  unfold bX12_is_39 bX12_is_82
  rw [if_pos rfl, rZ_0]
theorem r_is39 (hw : okW o n) (hL : L ≤ 700) (hT : ∀ j, j < L → T j < 256) (hX : TxR s L T) (hk : TkR s k a e) (hae : a ≤ e) (he : e ≤ L) (hn : n = e - a) : ∀ (f i : Nat), n - i < f → i ≤ n → lX12_is_39 N f 419 (1000000 + o) 1 (nI i) (mk s) = some (.inl (sk_i (decide (tw T (n - i) (a + i) = sw o (n - i) i))), mk s) := by
  have h3 := hw.2.2.1
  intro f
  induction f with
  | zero => intro i h; omega
  | succ f ih =>
    intro i hf hi
    show bX12_is_39 N (lX12_is_39 N f) 419 (1000000 + o) 1 (nI i) (mk s) = _
    unfold bX12_is_39 bX12_is_82 bX12_is_75
    rw [if_neg (by decide), sLn_w hw, ob_s]
    by_cases c : n ≤ i
    · rw [if_pos (nI_le c (by omega)), show n - i = 0 by omega, rZ_1]
      rfl
    · obtain ⟨g, hg, hg2⟩ := sub1 (show i < n by omega)
      obtain ⟨w1, w2⟩ := hw.2.2.2 i (by omega)
      have hTi := hT (a + i) (by omega)
      have q : nI (T (a + i)) = nI (sCr o i).toNatClampNeg ↔ T (a + i) = (sCr o i).toNatClampNeg := nI_inj (by omega) (by omega)
      have ii : inB (nI (a + i)) 700 = true := inA_nI (by omega) (by omega)
      rw [if_neg (nI_ge (by omega) (by omega)), sCh_w hw (by omega), ob_s, gR12 15 434 rfl rfl, ob_s, gI12 21 rfl, ob_s, hk.2.1, nI_add, aI_k ⟨rfl, ii⟩, ob_s, nI_clamp (by omega), hX.2 _ (by omega), hg, tw_s, sw_s]
      by_cases c2 : T (a + i) = (sCr o i).toNatClampNeg
      · rw [if_neg (fun z => z (w1.trans (q.mpr c2).symm)), nI_1, ih (i + 1) (by omega) (by omega), hg2, show a + (i + 1) = a + i + 1 by omega, dcc c2]
      · obtain ⟨f2, rfl⟩ : ∃ f2, f = f2 + 1 := ⟨f - 1, by omega⟩
        rw [if_pos (fun z => c2 (q.mp (z.symm.trans w1))), r_is0, decide_eq_false (fun z => c2 (List.cons.inj z).1)]
        rfl
theorem r_is (hN1 : 1000 ≤ N) (hw : okW o n) (hL : L ≤ 700) (hT : ∀ j, j < L → T j < 256) (hX : TxR s L T) (hk : TkR s k a e) (hk4 : k ≤ 4) (hae : a ≤ e) (he : e ≤ L) (hb : s.1 419 23 = 0) : fX12_is N 419 (1000000 + o) (mk s) = some (.inl (sk_i (decide (k = 1 ∧ tw T (e - a) a = sw o n 0))), mk s) := by
  have h3 := hw.2.2.1
  obtain ⟨N2, hN2⟩ : ∃ N2, N = N2 + 1 := ⟨N - 1, by omega⟩
  have r0 : lX12_is_39 N N 419 (1000000 + o) 0 0 (mk s) = some (.inl 0, mk s) := by
    rw [show lX12_is_39 N N = lX12_is_39 N (N2 + 1) by rw [← hN2], r_is0]
  unfold fX12_is bX12_is_0 bX12_is_35 bX12_is_36
  rw [gI12 23 rfl, ob_s, hb, if_neg (fun z => z rfl), gI12 19 rfl, ob_s, hk.1]
  by_cases c : k = 1
  · rw [if_neg (fun z => z (show nI k = (1 : Int32) by rw [c]; rfl)), sLn_w hw, ob_s, gI12 22 rfl, ob_s, gI12 21 rfl, ob_s, hk.2.2.1, hk.2.1, nI_sub hae]
    by_cases c2 : n = e - a
    · have hm : lX12_is_39 N N 419 (1000000 + o) 1 (0 : Int32) (mk s) = some (.inl (sk_i (decide (tw T n a = sw o n 0))), mk s) := r_is39 hw hL hT hX hk hae he c2 N 0 (by omega) (by omega)
      have e1 : decide (k = 1 ∧ tw T (e - a) a = sw o n 0) = decide (tw T n a = sw o n 0) := by simp [c, c2]
      rw [if_neg (fun z => z (by rw [c2])), hm, e1]
    · rw [if_pos (fun z => c2 ((nI_inj (by omega) (by omega)).mp z)), r0, decide_eq_false]
      · rfl
      · intro z
        have z2 := congrArg List.length z.2
        rw [tw_len, sw_len] at z2
        omega
  · rw [if_pos (nI_ne (c := 1) (x := 1) rfl (by omega) (by omega) c), r0, decide_eq_false (fun z => c z.1)]
    rfl
theorem r_isb {v : Nat} (hN1 : 1000 ≤ N) (hb : ¬ s.1 419 23 = 0) : fX12_is N 419 v (mk s) = some (.inl 0, mk s) := by
  obtain ⟨N2, hN2⟩ : ∃ N2, N = N2 + 1 := ⟨N - 1, by omega⟩
  have r0 : lX12_is_39 N N 419 v 0 0 (mk s) = some (.inl 0, mk s) := by
    rw [show lX12_is_39 N N = lX12_is_39 N (N2 + 1) by rw [← hN2], r_is0]
  unfold fX12_is bX12_is_0 bX12_is_35 bX12_is_36
  rw [gI12 23 rfl, ob_s, if_pos hb, r0]
theorem r_wof2 (hN1 : 1000 ≤ N) (hL : L ≤ 700) (hT : ∀ j, j < L → T j < 256) (hX : TxR s L T) (hk : TkR s k a e) (hk4 : k ≤ 4) (hae : a ≤ e) (he : e ≤ L) (hb : s.1 419 23 = 0) {A m : Nat} (hA : kc A = 26) (hA2 : kn A = m) (hm : m < 100) (hr : ∀ (s : sg) i, i < m → rf s 26 A i = 1000000 + (o + i)) (hw : ∀ i, i < m → okW (o + i) (mm_sl.getD (o + i) 0)) : ∀ (f i : Nat), m - i < f → i ≤ m → lX12_wordOf_2 N f 419 A (nI i) (mk s) = some (.inl (wof o k (tw T (e - a) a) (m - i) i), mk s) := by
  intro f
  induction f with
  | zero => intro i h; omega
  | succ f ih =>
    intro i hf hi
    show bX12_wordOf_2 N (lX12_wordOf_2 N f) 419 A (nI i) (mk s) = _
    have hl : aN (mk s) A = some (nI m) := by rw [aN_k (Or.inr (Or.inr hA)), hA2, nI]
    unfold bX12_wordOf_2 bX12_wordOf_18
    rw [hl, ob_s]
    by_cases c : m ≤ i
    · rw [if_pos (nI_le c (by omega)), show m - i = 0 by omega]
      rfl
    · obtain ⟨g, hg, hg2⟩ := sub1 (show i < m by omega)
      have ii : inB (nI i) (kn A) = true := by rw [hA2]; exact inA_nI (by omega) (by omega)
      rw [if_neg (nI_ge (by omega) (by omega)), aR_26 ⟨hA, ii⟩, ob_s, nI_clamp (by omega), hr s i (by omega), cV12, r_is hN1 (hw i (by omega)) hL hT hX hk hk4 hae he hb, cS_l, hg, wof_s]
      by_cases c2 : k = 1 ∧ tw T (e - a) a = sw (o + i) (mm_sl.getD (o + i) 0) 0
      · rw [decide_eq_true c2, if_neg (by decide), if_pos c2]
      · rw [decide_eq_false c2, if_pos (by decide), if_neg c2, nI_1, ih (i + 1) (by omega) (by omega), hg2]
theorem r_kinds (hN1 : 1000 ≤ N) (hL : L ≤ 700) (hT : ∀ j, j < L → T j < 256) (hX : TxR s L T) (hk : TkR s k a e) (hk4 : k ≤ 4) (hae : a ≤ e) (he : e ≤ L) (hb : s.1 419 23 = 0) : fX12_wordOf N 419 420 (mk s) = some (.inl (wof 20 k (tw T (e - a) a) 3 0), mk s) :=
  r_wof2 (o := 20) (A := 420) (m := 3) hN1 hL hT hX hk hk4 hae he hb rfl rfl (by omega) (fun s i _ => show 1000020 + i = 1000000 + (20 + i) by omega) (fun i h => okW_k i (by omega)) N 0 (by omega) (by omega)
theorem r_values (hN1 : 1000 ≤ N) (hL : L ≤ 700) (hT : ∀ j, j < L → T j < 256) (hX : TxR s L T) (hk : TkR s k a e) (hk4 : k ≤ 4) (hae : a ≤ e) (he : e ≤ L) (hb : s.1 419 23 = 0) : fX12_wordOf N 419 421 (mk s) = some (.inl (wof 23 k (tw T (e - a) a) 8 0), mk s) :=
  r_wof2 (o := 23) (A := 421) (m := 8) hN1 hL hT hX hk hk4 hae he hb rfl rfl (by omega) (fun s i _ => show 1000023 + i = 1000000 + (23 + i) by omega) (fun i h => by have := okW_k (3 + i) (by omega); rw [show 20 + (3 + i) = 23 + i by omega] at this; exact this) N 0 (by omega) (by omega)
theorem r_isMd {c : Nat} {x : Int32} (hx : x = nI c) (hc : c < 128) (hL : L ≤ 700) (hT : ∀ j, j < L → T j < 256) (hX : TxR s L T) (hk : TkR s k a e) (hk4 : k ≤ 4) (ha : k = 3 → a < L) (hb : s.1 419 23 = 0) : fX12_isMarked N 419 x (mk s) = some (.inl (sk_i (decide (k = 3 ∧ T a = c))), mk s) := by
  unfold fX12_isMarked bX12_isMarked_0
  rw [gI12 23 rfl, ob_s, hb, if_neg (fun z => z rfl), gI12 19 rfl, ob_s, hk.1]
  by_cases c1 : k = 3
  · have ha := ha c1
    have hTa := hT a ha
    have ii : inB (nI a) 700 = true := inA_nI (by omega) (by omega)
    rw [if_neg (fun z => z (show nI k = (3 : Int32) by rw [c1]; rfl)), gR12 15 434 rfl rfl, ob_s, gI12 21 rfl, ob_s, hk.2.1, aI_k ⟨rfl, ii⟩, ob_s, nI_clamp (by omega), hX.2 a ha, hx]
    by_cases c2 : T a = c
    · rw [if_neg (fun z => z (by rw [c2])), rZ_1, decide_eq_true ⟨c1, c2⟩]
      rfl
    · rw [if_pos (fun z => c2 ((nI_inj (by omega) (by omega)).mp z)), rZ_0, decide_eq_false (fun z => c2 z.2)]
      rfl
  · rw [if_pos (nI_ne (c := 3) (x := 3) rfl (by omega) (by omega) c1), rZ_0, decide_eq_false (fun z => c1 z.1)]
    rfl
theorem r_isMdb {x : Int32} (hb : ¬ s.1 419 23 = 0) : fX12_isMarked N 419 x (mk s) = some (.inl 0, mk s) := by
  unfold fX12_isMarked bX12_isMarked_0
  rw [gI12 23 rfl, ob_s, if_pos hb, rZ_0]
end WD
