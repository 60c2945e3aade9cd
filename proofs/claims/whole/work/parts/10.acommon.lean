/-! words of the tables that many rules ask -/
set_option maxRecDepth 100000 in
theorem wo_inst : Cond.instanceMethod objectInit ∈ mm_tbl := mm_in 142 (by decide +kernel) rfl
set_option maxRecDepth 100000 in
theorem wo_code : Cond.code objectInit ⟨#[0xb1]⟩ 1 none ∈ mm_tbl := mm_in 143 (by decide +kernel) rfl
set_option maxRecDepth 100000 in
theorem wo_cpn : Cond.native arraycopyName ∈ mm_tbl := mm_in 656 (by decide +kernel) rfl
set_option maxRecDepth 100000 in
theorem wo_cps : Cond.static arraycopyName ∈ mm_tbl := mm_in 655 (by decide +kernel) rfl
set_option maxRecDepth 100000 in
theorem wo_sys : Cond.initialized "java/lang/System" ∈ mm_tbl := mm_in 128 (by decide +kernel) rfl
set_option maxRecDepth 100000 in
theorem wo_arint : Cond.arrayClass .int ∈ mm_tbl := mm_in 163 (by decide +kernel) rfl
set_option maxRecDepth 100000 in
theorem wo_arbyte : Cond.arrayClass .byte ∈ mm_tbl := mm_in 162 (by decide +kernel) rfl
set_option maxRecDepth 100000 in
theorem wo_arboolean : Cond.arrayClass .boolean ∈ mm_tbl := mm_in 444 (by decide +kernel) rfl
set_option maxRecDepth 100000 in
theorem wo_arlong : Cond.arrayClass .long ∈ mm_tbl := mm_in 2165 (by decide +kernel) rfl
set_option maxRecDepth 100000 in
theorem wo_in0 : Cond.instantiable RX0 13 ∈ mm_tbl := mm_in 472 (by decide +kernel) rfl
set_option maxRecDepth 100000 in
theorem wo_it0 : Cond.initialized RX0 ∈ mm_tbl := mm_in 120 (by decide +kernel) rfl
set_option maxRecDepth 100000 in
theorem wo_in1 : Cond.instantiable RX1 5 ∈ mm_tbl := mm_in 448 (by decide +kernel) rfl
set_option maxRecDepth 100000 in
theorem wo_it1 : Cond.initialized RX1 ∈ mm_tbl := mm_in 119 (by decide +kernel) rfl
set_option maxRecDepth 100000 in
theorem wo_in2 : Cond.instantiable RX2 7 ∈ mm_tbl := mm_in 291 (by decide +kernel) rfl
set_option maxRecDepth 100000 in
theorem wo_it2 : Cond.initialized RX2 ∈ mm_tbl := mm_in 115 (by decide +kernel) rfl
set_option maxRecDepth 100000 in
theorem wo_in3 : Cond.instantiable RX3 9 ∈ mm_tbl := mm_in 145 (by decide +kernel) rfl
set_option maxRecDepth 100000 in
theorem wo_it3 : Cond.initialized RX3 ∈ mm_tbl := mm_in 111 (by decide +kernel) rfl
set_option maxRecDepth 100000 in
theorem wo_in4 : Cond.instantiable RX4 6 ∈ mm_tbl := mm_in 165 (by decide +kernel) rfl
set_option maxRecDepth 100000 in
theorem wo_it4 : Cond.initialized RX4 ∈ mm_tbl := mm_in 113 (by decide +kernel) rfl
set_option maxRecDepth 100000 in
theorem wo_in5 : Cond.instantiable RX5 8 ∈ mm_tbl := mm_in 344 (by decide +kernel) rfl
set_option maxRecDepth 100000 in
theorem wo_it5 : Cond.initialized RX5 ∈ mm_tbl := mm_in 117 (by decide +kernel) rfl
set_option maxRecDepth 100000 in
theorem wo_in6 : Cond.instantiable RX6 13 ∈ mm_tbl := mm_in 528 (by decide +kernel) rfl
set_option maxRecDepth 100000 in
theorem wo_it6 : Cond.initialized RX6 ∈ mm_tbl := mm_in 121 (by decide +kernel) rfl
set_option maxRecDepth 100000 in
theorem wo_in7 : Cond.instantiable RX7 6 ∈ mm_tbl := mm_in 191 (by decide +kernel) rfl
set_option maxRecDepth 100000 in
theorem wo_it7 : Cond.initialized RX7 ∈ mm_tbl := mm_in 114 (by decide +kernel) rfl
set_option maxRecDepth 100000 in
theorem wo_in8 : Cond.instantiable RX8 1 ∈ mm_tbl := mm_in 153 (by decide +kernel) rfl
set_option maxRecDepth 100000 in
theorem wo_it8 : Cond.initialized RX8 ∈ mm_tbl := mm_in 112 (by decide +kernel) rfl
set_option maxRecDepth 100000 in
theorem wo_in9 : Cond.instantiable RX9 9 ∈ mm_tbl := mm_in 350 (by decide +kernel) rfl
set_option maxRecDepth 100000 in
theorem wo_it9 : Cond.initialized RX9 ∈ mm_tbl := mm_in 118 (by decide +kernel) rfl
set_option maxRecDepth 100000 in
theorem wo_in10 : Cond.instantiable RX10 5 ∈ mm_tbl := mm_in 297 (by decide +kernel) rfl
set_option maxRecDepth 100000 in
theorem wo_it10 : Cond.initialized RX10 ∈ mm_tbl := mm_in 116 (by decide +kernel) rfl
set_option maxRecDepth 100000 in
theorem wo_in11 : Cond.instantiable RX11 13 ∈ mm_tbl := mm_in 137 (by decide +kernel) rfl
set_option maxRecDepth 100000 in
theorem wo_it11 : Cond.initialized RX11 ∈ mm_tbl := mm_in 110 (by decide +kernel) rfl
set_option maxRecDepth 100000 in
theorem wo_in12 : Cond.instantiable RX12 61 ∈ mm_tbl := mm_in 1508 (by decide +kernel) rfl
set_option maxRecDepth 100000 in
theorem wo_it12 : Cond.initialized RX12 ∈ mm_tbl := mm_in 122 (by decide +kernel) rfl
def kJ6_bitCount_0f7a4 : List (Nat × mm_I) := [(0, .iload_n 0, 1, 0, 0, .tt), (1, .iload_n 0, 2, 0, 0, .tt), (2, .iconst 1, 3, 0, 0, .tt), (3, .iushr, 4, 0, 0, .tt), (4, .ldc_w 265, 7, 0, 0, (.constant RJ6 265 (1431655765 : Int32))), (7, .iand, 8, 0, 0, .tt), (8, .isub, 9, 0, 0, .tt), (9, .istore_n 0, 10, 0, 0, .tt), (10, .iload_n 0, 11, 0, 0, .tt), (11, .ldc_w 266, 14, 0, 0, (.constant RJ6 266 (858993459 : Int32))), (14, .iand, 15, 0, 0, .tt), (15, .iload_n 0, 16, 0, 0, .tt), (16, .iconst 2, 17, 0, 0, .tt), (17, .iushr, 18, 0, 0, .tt), (18, .ldc_w 266, 21, 0, 0, (.constant RJ6 266 (858993459 : Int32))), (21, .iand, 22, 0, 0, .tt), (22, .iadd, 23, 0, 0, .tt), (23, .istore_n 0, 24, 0, 0, .tt), (24, .iload_n 0, 25, 0, 0, .tt), (25, .iload_n 0, 26, 0, 0, .tt), (26, .iconst 4, 27, 0, 0, .tt), (27, .iushr, 28, 0, 0, .tt), (28, .iadd, 29, 0, 0, .tt), (29, .ldc_w 267, 32, 0, 0, (.constant RJ6 267 (252645135 : Int32))), (32, .iand, 33, 0, 0, .tt), (33, .istore_n 0, 34, 0, 0, .tt), (34, .iload_n 0, 35, 0, 0, .tt), (35, .iload_n 0, 36, 0, 0, .tt), (36, .bipush 8, 38, 0, 0, .tt), (38, .iushr, 39, 0, 0, .tt), (39, .iadd, 40, 0, 0, .tt), (40, .istore_n 0, 41, 0, 0, .tt), (41, .iload_n 0, 42, 0, 0, .tt), (42, .iload_n 0, 43, 0, 0, .tt), (43, .bipush 16, 45, 0, 0, .tt), (45, .iushr, 46, 0, 0, .tt), (46, .iadd, 47, 0, 0, .tt), (47, .istore_n 0, 48, 0, 0, .tt), (48, .iload_n 0, 49, 0, 0, .tt), (49, .bipush 63, 51, 0, 0, .tt), (51, .iand, 52, 0, 0, .tt), (52, .ireturn, 53, 0, 0, .tt)]
def qJ6_bitCount_0f7a4 : mm_M := (yJ6_bitCount_0f7a4, cJ6_bitCount_0f7a4, 1, (some .int), [], kJ6_bitCount_0f7a4)
set_option maxRecDepth 100000 in
theorem gJ6_bitCount_0f7a4 : mm_good qJ6_bitCount_0f7a4 := mm_good_of [0, 0, 0, 0, 792, 0, 0, 0, 0, 793, 0, 0, 0, 0, 793, 0, 0, 0, 0, 0, 0, 0, 0, 794, 0, 0, 0, 0, 0, 0, 0, 0, 0, 0, 0, 0, 0, 0, 0, 0, 0, 0] rfl (by decide +kernel)
set_option maxRecDepth 100000 in
theorem aJ6_bitCount_0f7a4 : mm_cal qJ6_bitCount_0f7a4 1 := ⟨rfl, mm_in 791 (by decide +kernel) rfl, mm_in 135 (by decide +kernel) rfl, by decide +kernel, by decide +kernel, by decide +kernel⟩
set_option maxRecDepth 100000 in
theorem tJ6_bitCount_0f7a4 : Cond.static qJ6_bitCount_0f7a4.1 ∈ mm_tbl := mm_in 790 (by decide +kernel) rfl
def kJ9_max_7cf53 : List (Nat × mm_I) := [(0, .iload_n 0, 1, 0, 0, .tt), (1, .iload_n 1, 2, 0, 0, .tt), (2, .if_icmp .lt 7, 5, 9, 0, .tt), (5, .iload_n 0, 6, 0, 0, .tt), (6, .goto 4, 9, 10, 0, .tt), (9, .iload_n 1, 10, 0, 0, .tt), (10, .ireturn, 11, 0, 0, .tt)]
def qJ9_max_7cf53 : mm_M := (yJ9_max_7cf53, cJ9_max_7cf53, 2, (some .int), [], kJ9_max_7cf53)
set_option maxRecDepth 100000 in
theorem gJ9_max_7cf53 : mm_good qJ9_max_7cf53 := mm_good_of [0, 0, 0, 0, 0, 0, 0] rfl (by decide +kernel)
set_option maxRecDepth 100000 in
theorem aJ9_max_7cf53 : mm_cal qJ9_max_7cf53 2 := ⟨rfl, mm_in 691 (by decide +kernel) rfl, mm_in 127 (by decide +kernel) rfl, by decide +kernel, by decide +kernel, by decide +kernel⟩
set_option maxRecDepth 100000 in
theorem tJ9_max_7cf53 : Cond.static qJ9_max_7cf53.1 ∈ mm_tbl := mm_in 690 (by decide +kernel) rfl
def kJ9_min_7cf53 : List (Nat × mm_I) := [(0, .iload_n 0, 1, 0, 0, .tt), (1, .iload_n 1, 2, 0, 0, .tt), (2, .if_icmp .gt 7, 5, 9, 0, .tt), (5, .iload_n 0, 6, 0, 0, .tt), (6, .goto 4, 9, 10, 0, .tt), (9, .iload_n 1, 10, 0, 0, .tt), (10, .ireturn, 11, 0, 0, .tt)]
def qJ9_min_7cf53 : mm_M := (yJ9_min_7cf53, cJ9_min_7cf53, 2, (some .int), [], kJ9_min_7cf53)
set_option maxRecDepth 100000 in
theorem gJ9_min_7cf53 : mm_good qJ9_min_7cf53 := mm_good_of [0, 0, 0, 0, 0, 0, 0] rfl (by decide +kernel)
set_option maxRecDepth 100000 in
theorem aJ9_min_7cf53 : mm_cal qJ9_min_7cf53 2 := ⟨rfl, mm_in 688 (by decide +kernel) rfl, mm_in 127 (by decide +kernel) rfl, by decide +kernel, by decide +kernel, by decide +kernel⟩
set_option maxRecDepth 100000 in
theorem tJ9_min_7cf53 : Cond.static qJ9_min_7cf53.1 ∈ mm_tbl := mm_in 687 (by decide +kernel) rfl
