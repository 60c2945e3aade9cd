/- needs: 15.acall 15.fun 18.alaw -/
/-! at the entry of the law -/
def ww_F : List Cond := flatC (Jvm.Cond.and given_1 narrow_1)
def ww_t : List (String × Nat) := [("CloudTakes", 89), ("CloudTakes$Tokens", 50), ("CloudTakes$Parser", 78), ("CloudTakes$Parser", 56), ("CloudTakes$Parser", 143), ("CloudTakes$Parser", 194), ("CloudTakes$Parser", 208), ("CloudTakes$Parser", 192), ("CloudTakes$Parser", 184), ("CloudTakes", 165), ("CloudTakes", 385), ("CloudTakes", 387), ("CloudTakes", 389), ("CloudTakes", 297), ("CloudTakes", 305), ("CloudTakes", 337), ("CloudTakes", 348), ("CloudTakes", 391), ("CloudTakes", 364), ("CloudTakes", 373), ("CloudTakesModel", 11), ("CloudTakesModel", 13), ("CloudTakesModel", 15), ("CloudTakesModel", 21), ("CloudTakesModel", 23), ("CloudTakesModel", 25), ("CloudTakesModel", 27), ("CloudTakesModel", 29), ("CloudTakesModel", 31), ("CloudTakesModel", 33), ("CloudTakesModel", 35), ("CloudTakesModel", 260), ("CloudTakesModel", 262), ("CloudTakesModel", 264), ("CloudTakesModel", 269), ("CloudTakesModel", 274), ("CloudTakesModel", 276)]
def ww_tm (i : Nat) : Term := Term.string (ww_t.getD i ("", 0)).1 (ww_t.getD i ("", 0)).2
def ww_b : List Nat := [71, 105, 118, 168, 192, 201, 208, 259, 266, 272, 288, 304, 333, 349, 377, 430, 454, 478, 516, 551, 571, 579, 587, 597, 607, 615, 624, 632, 641, 649, 659, 668, 675, 683, 701, 708, 717]
set_option maxRecDepth 100000 in
set_option maxHeartbeats 4000000 in
theorem ww_ex : ∀ i : Nat, i < 37 → ww_F[ww_b.getD i 0]? = some (Cond.exactly (ww_tm i) "java/lang/String") := by decide +kernel
set_option maxRecDepth 100000 in
set_option maxHeartbeats 4000000 in
theorem ww_co : ∀ i : Nat, i < 37 → ww_F[ww_b.getD i 0 + 1]? = some (Cond.eq (.field (ww_tm i) "java/lang/String" "coder" "B") (.int 0)) := by decide +kernel
set_option maxRecDepth 100000 in
set_option maxHeartbeats 4000000 in
theorem ww_ar : ∀ i : Nat, i < 37 → ww_F[ww_b.getD i 0 + 2]? = some (Cond.arrayOf (.field (ww_tm i) "java/lang/String" "value" "[B") .byte) := by decide +kernel
set_option maxRecDepth 100000 in
set_option maxHeartbeats 4000000 in
theorem ww_le : ∀ i : Nat, i < 37 → ww_F[ww_b.getD i 0 + 3]? = some (Cond.eq (.length (.field (ww_tm i) "java/lang/String" "value" "[B")) (.int (Int32.ofNat (mm_sl.getD i 0)))) := by decide +kernel
set_option maxRecDepth 100000 in
set_option maxHeartbeats 4000000 in
theorem ww_el : ∀ i : Nat, i < 37 → ∀ j : Nat, j < mm_sl.getD i 0 → ww_F[ww_b.getD i 0 + 4 + j]? = some (Cond.eq (.elem (.field (ww_tm i) "java/lang/String" "value" "[B") (.int (Int32.ofNat j))) (.int ((mm_sb.getD i []).getD j 0))) := by decide +kernel
def ww_r : List (Nat × Nat) := [(949, 0), (1006, 0), (1097, 0), (1135, 0), (1168, 0), (1205, 0), (1222, 0), (1227, 0), (1228, 0), (1259, 0), (1281, 0), (1293, 0), (1360, 0), (1375, 0), (1392, 0), (1424, 0), (1440, 0), (1465, 0), (1476, 0), (1495, 0), (1515, 0), (1516, 0), (1517, 0), (1518, 0), (1519, 0), (1520, 0), (1521, 0), (1522, 0), (1523, 0), (1524, 0), (1525, 0), (1749, 0), (1756, 0), (1757, 0), (1782, 700), (1783, 0), (1788, 0), (1789, 0), (1810, 732), (1831, 740), (1832, 747)]
set_option maxRecDepth 100000 in
set_option maxHeartbeats 4000000 in
theorem ww_sr : ∀ i : Nat, i < 41 → ∃ r, mm_sr[i]? = some r ∧ lw_tbl[(ww_r.getD i (0, 0)).1]? = some (.stringRef r.1 r.2.1 r.2.2.1) ∧ r.2.2.2 < 37 ∧ (Term.string r.1 r.2.1 = ww_tm r.2.2.2 ∨ ww_F[(ww_r.getD i (0, 0)).2]? = some (Cond.eq (ww_tm r.2.2.2) (Term.string r.1 r.2.1))) := by
  intro i hi
  refine ⟨mm_sr.getD i ("", 0, "", 0), ?_⟩
  revert i
  decide +kernel
set_option maxRecDepth 100000 in
set_option maxHeartbeats 4000000 in
theorem ww_nl : ∀ r ∈ mm_nl, (.methodLinkNest r.1 r.2.1 r.2.2.1 r.2.2.2 : Cond) ∈ lw_tbl := by
  have h : (mm_nl.zip [154, 166, 192, 298, 351, 356, 446, 478]).all (fun q => match q with | (r, i) => decide (lw_tbl[i]? = some (.methodLinkNest r.1 r.2.1 r.2.2.1 r.2.2.2))) = true := by decide +kernel
  have hl : mm_nl.length = [154, 166, 192, 298, 351, 356, 446, 478].length := by decide
  intro r hr
  obtain ⟨n, hn⟩ := List.getElem?_of_mem hr
  have hlt : n < [154, 166, 192, 298, 351, 356, 446, 478].length := by rw [← hl]; exact (List.getElem?_eq_some_iff.mp hn).1
  have h1 := List.all_eq_true.mp h (r, [154, 166, 192, 298, 351, 356, 446, 478][n]) (List.mem_of_getElem? (i := n) (by rw [List.getElem?_zip_eq_some]; exact ⟨hn, List.getElem?_eq_getElem hlt⟩))
  exact List.mem_of_getElem? (of_decide_eq_true h1)
set_option maxRecDepth 100000 in
set_option maxHeartbeats 4000000 in
theorem ww_ca : ∀ r ∈ mm_ca, (.castable r.1 r.2 : Cond) ∈ lw_tbl := by
  have h : (mm_ca.zip [911, 1252, 2167, 2168, 2169, 2170, 2171, 2172, 2173, 2174, 2175, 2176, 2177, 2178, 2179, 2180, 2181, 2182, 2183]).all (fun q => match q with | (r, i) => decide (lw_tbl[i]? = some (.castable r.1 r.2))) = true := by decide +kernel
  have hl : mm_ca.length = [911, 1252, 2167, 2168, 2169, 2170, 2171, 2172, 2173, 2174, 2175, 2176, 2177, 2178, 2179, 2180, 2181, 2182, 2183].length := by decide
  intro r hr
  obtain ⟨n, hn⟩ := List.getElem?_of_mem hr
  have hlt : n < [911, 1252, 2167, 2168, 2169, 2170, 2171, 2172, 2173, 2174, 2175, 2176, 2177, 2178, 2179, 2180, 2181, 2182, 2183].length := by rw [← hl]; exact (List.getElem?_eq_some_iff.mp hn).1
  have h1 := List.all_eq_true.mp h (r, [911, 1252, 2167, 2168, 2169, 2170, 2171, 2172, 2173, 2174, 2175, 2176, 2177, 2178, 2179, 2180, 2181, 2182, 2183][n]) (List.mem_of_getElem? (i := n) (by rw [List.getElem?_zip_eq_some]; exact ⟨hn, List.getElem?_eq_getElem hlt⟩))
  exact List.mem_of_getElem? (of_decide_eq_true h1)
set_option maxRecDepth 100000 in
set_option maxHeartbeats 4000000 in
theorem ww_de : ∀ r ∈ mm_de, (.declares r : Cond) ∈ lw_tbl := by
  have h : (mm_de.zip [912, 913, 914, 915, 916, 917]).all (fun q => match q with | (r, i) => decide (lw_tbl[i]? = some (.declares r))) = true := by decide +kernel
  have hl : mm_de.length = [912, 913, 914, 915, 916, 917].length := by decide
  intro r hr
  obtain ⟨n, hn⟩ := List.getElem?_of_mem hr
  have hlt : n < [912, 913, 914, 915, 916, 917].length := by rw [← hl]; exact (List.getElem?_eq_some_iff.mp hn).1
  have h1 := List.all_eq_true.mp h (r, [912, 913, 914, 915, 916, 917][n]) (List.mem_of_getElem? (i := n) (by rw [List.getElem?_zip_eq_some]; exact ⟨hn, List.getElem?_eq_getElem hlt⟩))
  exact List.mem_of_getElem? (of_decide_eq_true h1)
set_option maxRecDepth 100000 in
set_option maxHeartbeats 4000000 in
theorem ww_nc : ∀ r ∈ mm_nc, (.not (.castable r.1 r.2) : Cond) ∈ ww_F := by
  have h : (mm_nc.zip [11, 12, 13, 14, 15, 16, 17, 18, 19, 20, 21, 22, 23, 24, 25, 26, 27, 28, 29, 30, 31, 32, 33, 34, 35, 36, 37, 38, 39, 40, 41, 42, 43, 44, 45, 46, 47, 48, 49, 50, 51, 52, 53, 54, 55, 56, 57, 58, 59, 60, 61, 62, 63, 64, 65, 66, 67, 68, 69, 70]).all (fun q => match q with | (r, i) => decide (ww_F[i]? = some (.not (.castable r.1 r.2)))) = true := by decide +kernel
  have hl : mm_nc.length = [11, 12, 13, 14, 15, 16, 17, 18, 19, 20, 21, 22, 23, 24, 25, 26, 27, 28, 29, 30, 31, 32, 33, 34, 35, 36, 37, 38, 39, 40, 41, 42, 43, 44, 45, 46, 47, 48, 49, 50, 51, 52, 53, 54, 55, 56, 57, 58, 59, 60, 61, 62, 63, 64, 65, 66, 67, 68, 69, 70].length := by decide
  intro r hr
  obtain ⟨n, hn⟩ := List.getElem?_of_mem hr
  have hlt : n < [11, 12, 13, 14, 15, 16, 17, 18, 19, 20, 21, 22, 23, 24, 25, 26, 27, 28, 29, 30, 31, 32, 33, 34, 35, 36, 37, 38, 39, 40, 41, 42, 43, 44, 45, 46, 47, 48, 49, 50, 51, 52, 53, 54, 55, 56, 57, 58, 59, 60, 61, 62, 63, 64, 65, 66, 67, 68, 69, 70].length := by rw [← hl]; exact (List.getElem?_eq_some_iff.mp hn).1
  have h1 := List.all_eq_true.mp h (r, [11, 12, 13, 14, 15, 16, 17, 18, 19, 20, 21, 22, 23, 24, 25, 26, 27, 28, 29, 30, 31, 32, 33, 34, 35, 36, 37, 38, 39, 40, 41, 42, 43, 44, 45, 46, 47, 48, 49, 50, 51, 52, 53, 54, 55, 56, 57, 58, 59, 60, 61, 62, 63, 64, 65, 66, 67, 68, 69, 70][n]) (List.mem_of_getElem? (i := n) (by rw [List.getElem?_zip_eq_some]; exact ⟨hn, List.getElem?_eq_getElem hlt⟩))
  exact List.mem_of_getElem? (of_decide_eq_true h1)
set_option maxRecDepth 100000 in
set_option maxHeartbeats 4000000 in
theorem ww_aoS : Cond.arrayOver (.object "CloudTakes$Shot") ∈ lw_tbl := List.mem_of_getElem? (i := 151) (by decide +kernel)
set_option maxRecDepth 100000 in
set_option maxHeartbeats 4000000 in
theorem ww_aoT : Cond.arrayOver (.object "CloudTakes$State") ∈ lw_tbl := List.mem_of_getElem? (i := 411) (by decide +kernel)
set_option maxRecDepth 100000 in
set_option maxHeartbeats 4000000 in
theorem ww_aoU : Cond.arrayOver (.object "java/lang/String") ∈ lw_tbl := List.mem_of_getElem? (i := 1514) (by decide +kernel)
set_option maxRecDepth 100000 in
set_option maxHeartbeats 4000000 in
theorem ww_aoA : Cond.arrayOver (.array .int) ∈ lw_tbl := List.mem_of_getElem? (i := 534) (by decide +kernel)
set_option maxRecDepth 100000 in
set_option maxHeartbeats 4000000 in
theorem ww_zu : Cond.laysStatic "java/lang/Throwable" "UNASSIGNED_STACK" "[Ljava/lang/StackTraceElement;" ∈ lw_tbl ∧ Cond.initialized "java/lang/Throwable" ∈ lw_tbl ∧ Cond.isRef (.static "java/lang/Throwable" "UNASSIGNED_STACK" "[Ljava/lang/StackTraceElement;") ∈ ww_F := ⟨List.mem_of_getElem? (i := 936) (by decide +kernel), List.mem_of_getElem? (i := 123) (by decide +kernel), List.mem_of_getElem? (i := 4) (by decide +kernel)⟩
set_option maxRecDepth 100000 in
set_option maxHeartbeats 4000000 in
theorem ww_zs : Cond.laysStatic "java/lang/Throwable" "SUPPRESSED_SENTINEL" "Ljava/util/List;" ∈ lw_tbl ∧ Cond.initialized "java/lang/Throwable" ∈ lw_tbl ∧ Cond.isRef (.static "java/lang/Throwable" "SUPPRESSED_SENTINEL" "Ljava/util/List;") ∈ ww_F := ⟨List.mem_of_getElem? (i := 938) (by decide +kernel), List.mem_of_getElem? (i := 123) (by decide +kernel), List.mem_of_getElem? (i := 5) (by decide +kernel)⟩
set_option maxRecDepth 100000 in
set_option maxHeartbeats 4000000 in
theorem ww_zc : Cond.laysStatic "java/lang/String" "COMPACT_STRINGS" "Z" ∈ lw_tbl ∧ Cond.initialized "java/lang/String" ∈ lw_tbl ∧ Cond.eq (.static "java/lang/String" "COMPACT_STRINGS" "Z") (.int 1) ∈ ww_F := ⟨List.mem_of_getElem? (i := 1020) (by decide +kernel), List.mem_of_getElem? (i := 129) (by decide +kernel), List.mem_of_getElem? (i := 6) (by decide +kernel)⟩
set_option maxRecDepth 100000 in
set_option maxHeartbeats 4000000 in
theorem ww_zf : Cond.laysStatic "jdk/internal/util/Preconditions" "SIOOBE_FORMATTER" "Ljava/util/function/BiFunction;" ∈ lw_tbl ∧ Cond.initialized "jdk/internal/util/Preconditions" ∈ lw_tbl ∧ Cond.isRef (.static "jdk/internal/util/Preconditions" "SIOOBE_FORMATTER" "Ljava/util/function/BiFunction;") ∈ ww_F := ⟨List.mem_of_getElem? (i := 1059) (by decide +kernel), List.mem_of_getElem? (i := 132) (by decide +kernel), List.mem_of_getElem? (i := 7) (by decide +kernel)⟩
