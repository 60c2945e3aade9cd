def kX8_init : List (Nat × mm_I) := [(0, .aload_n 0, 1, 0, 0, .tt), (1, .invokespecial 3, 4, 0, 0, (.methodLink RX8 3 objectInit)), (4, .aload_n 0, 5, 0, 0, .tt), (5, .bipush 15, 7, 0, 0, .tt), (7, .newarray .int, 9, 0, 0, .tt), (9, .putfield 11, 12, 8, 0, (.fieldLink RX8 11 "CloudTakes$Sky" "sun" "[I")), (12, .return_, 13, 0, 0, .tt)]
def qX8_init : mm_M := (yX8_init, cX8_init, 1, none, [], kX8_init)
set_option maxRecDepth 100000 in
theorem gX8_init : mm_good qX8_init := mm_good_of [0, 157, 0, 0, 0, 158, 0] rfl (by decide +kernel)
set_option maxRecDepth 100000 in
theorem aX8_init : mm_cal qX8_init 0 := ⟨rfl, mm_in 156 (by decide +kernel) rfl, mm_in 112 (by decide +kernel) rfl, by decide +kernel, by decide +kernel, by decide +kernel⟩
set_option maxRecDepth 100000 in
theorem iX8_init : Cond.instanceMethod qX8_init.1 ∈ mm_tbl := mm_in 155 (by decide +kernel) rfl
def kX8_copyFrom : List (Nat × mm_I) := [(0, .aload_n 1, 1, 0, 0, .tt), (1, .getfield 11, 4, 8, 0, (.fieldLink RX8 11 "CloudTakes$Sky" "sun" "[I")), (4, .iconst 0, 5, 0, 0, .tt), (5, .aload_n 0, 6, 0, 0, .tt), (6, .getfield 11, 9, 8, 0, (.fieldLink RX8 11 "CloudTakes$Sky" "sun" "[I")), (9, .iconst 0, 10, 0, 0, .tt), (10, .bipush 15, 12, 0, 0, .tt), (12, .invokestatic 15, 15, 0, 5, (.methodLink RX8 15 ⟨"java/lang/System", "arraycopy", "(Ljava/lang/Object;ILjava/lang/Object;II)V"⟩)), (15, .return_, 16, 0, 0, .tt)]
def qX8_copyFrom : mm_M := (yX8_copyFrom, cX8_copyFrom, 2, none, [], kX8_copyFrom)
set_option maxRecDepth 100000 in
theorem gX8_copyFrom : mm_good qX8_copyFrom := mm_good_of [0, 158, 0, 0, 158, 0, 0, 661, 0] rfl (by decide +kernel)
set_option maxRecDepth 100000 in
theorem aX8_copyFrom : mm_cal qX8_copyFrom 1 := ⟨rfl, mm_in 660 (by decide +kernel) rfl, mm_in 112 (by decide +kernel) rfl, by decide +kernel, by decide +kernel, by decide +kernel⟩
set_option maxRecDepth 100000 in
theorem iX8_copyFrom : Cond.instanceMethod qX8_copyFrom.1 ∈ mm_tbl := mm_in 658 (by decide +kernel) rfl
set_option maxRecDepth 100000 in
theorem sX8_copyFrom : Cond.selects qX8_copyFrom.1.cls qX8_copyFrom.1 qX8_copyFrom.1 ∈ mm_tbl := mm_in 659 (by decide +kernel) rfl
def kX8_clears : List (Nat × mm_I) := [(0, .iconst 0, 1, 0, 0, .tt), (1, .istore_n 1, 2, 0, 0, .tt), (2, .iload_n 1, 3, 0, 0, .tt), (3, .bipush 15, 5, 0, 0, .tt), (5, .if_icmp .ge 16, 8, 21, 0, .tt), (8, .aload_n 0, 9, 0, 0, .tt), (9, .getfield 11, 12, 8, 0, (.fieldLink RX8 11 "CloudTakes$Sky" "sun" "[I")), (12, .iload_n 1, 13, 0, 0, .tt), (13, .iconst 0, 14, 0, 0, .tt), (14, .iastore, 15, 0, 0, .tt), (15, .iinc 1 1, 18, 0, 0, .tt), (18, .goto (-16), 21, 2, 0, .tt), (21, .return_, 22, 0, 0, .tt)]
def qX8_clears : mm_M := (yX8_clears, cX8_clears, 2, none, [], kX8_clears)
set_option maxRecDepth 100000 in
theorem gX8_clears : mm_good qX8_clears := mm_good_of [0, 0, 0, 0, 0, 0, 158, 0, 0, 0, 0, 0, 0] rfl (by decide +kernel)
set_option maxRecDepth 100000 in
theorem aX8_clears : mm_cal qX8_clears 0 := ⟨rfl, mm_in 987 (by decide +kernel) rfl, mm_in 112 (by decide +kernel) rfl, by decide +kernel, by decide +kernel, by decide +kernel⟩
set_option maxRecDepth 100000 in
theorem iX8_clears : Cond.instanceMethod qX8_clears.1 ∈ mm_tbl := mm_in 985 (by decide +kernel) rfl
set_option maxRecDepth 100000 in
theorem sX8_clears : Cond.selects qX8_clears.1.cls qX8_clears.1 qX8_clears.1 ∈ mm_tbl := mm_in 986 (by decide +kernel) rfl
def kX8_isSun : List (Nat × mm_I) := [(0, .iload_n 1, 1, 0, 0, .tt), (1, .ifCond .lt 10, 4, 11, 0, .tt), (4, .iload_n 1, 5, 0, 0, .tt), (5, .sipush 480, 8, 0, 0, .tt), (8, .if_icmp .lt 5, 11, 13, 0, .tt), (11, .iconst 0, 12, 0, 0, .tt), (12, .ireturn, 13, 0, 0, .tt), (13, .aload_n 0, 14, 0, 0, .tt), (14, .getfield 11, 17, 8, 0, (.fieldLink RX8 11 "CloudTakes$Sky" "sun" "[I")), (17, .iload_n 1, 18, 0, 0, .tt), (18, .iconst 5, 19, 0, 0, .tt), (19, .ishr, 20, 0, 0, .tt), (20, .iaload, 21, 0, 0, .tt), (21, .iload_n 1, 22, 0, 0, .tt), (22, .bipush 31, 24, 0, 0, .tt), (24, .iand, 25, 0, 0, .tt), (25, .iushr, 26, 0, 0, .tt), (26, .iconst 1, 27, 0, 0, .tt), (27, .iand, 28, 0, 0, .tt), (28, .iconst 1, 29, 0, 0, .tt), (29, .if_icmp .ne 7, 32, 36, 0, .tt), (32, .iconst 1, 33, 0, 0, .tt), (33, .goto 4, 36, 37, 0, .tt), (36, .iconst 0, 37, 0, 0, .tt), (37, .ireturn, 38, 0, 0, .tt)]
def qX8_isSun : mm_M := (yX8_isSun, cX8_isSun, 2, (some .boolean), [], kX8_isSun)
set_option maxRecDepth 100000 in
theorem gX8_isSun : mm_good qX8_isSun := mm_good_of [0, 0, 0, 0, 0, 0, 0, 0, 158, 0, 0, 0, 0, 0, 0, 0, 0, 0, 0, 0, 0, 0, 0, 0, 0] rfl (by decide +kernel)
set_option maxRecDepth 100000 in
theorem aX8_isSun : mm_cal qX8_isSun 1 := ⟨rfl, mm_in 695 (by decide +kernel) rfl, mm_in 112 (by decide +kernel) rfl, by decide +kernel, by decide +kernel, by decide +kernel⟩
set_option maxRecDepth 100000 in
theorem iX8_isSun : Cond.instanceMethod qX8_isSun.1 ∈ mm_tbl := mm_in 693 (by decide +kernel) rfl
set_option maxRecDepth 100000 in
theorem sX8_isSun : Cond.selects qX8_isSun.1.cls qX8_isSun.1 qX8_isSun.1 ∈ mm_tbl := mm_in 694 (by decide +kernel) rfl
def kX8_paint : List (Nat × mm_I) := [(0, .iload_n 2, 1, 0, 0, .tt), (1, .sipush 479, 4, 0, 0, .tt), (4, .invokestatic 21, 7, 0, 2, (.methodLink RX8 21 yJ9_min_7cf53)), (7, .istore 4, 9, 0, 0, .tt), (9, .iconst 0, 10, 0, 0, .tt), (10, .istore 5, 12, 0, 0, .tt), (12, .iload_n 1, 13, 0, 0, .tt), (13, .iconst 0, 14, 0, 0, .tt), (14, .invokestatic 27, 17, 0, 2, (.methodLink RX8 27 yJ9_max_7cf53)), (17, .istore 6, 19, 0, 0, .tt), (19, .iload 6, 21, 0, 0, .tt), (21, .iload 4, 23, 0, 0, .tt), (23, .if_icmp .gt 41, 26, 64, 0, .tt), (26, .aload_n 0, 27, 0, 0, .tt), (27, .iload 6, 29, 0, 0, .tt), (29, .invokevirtual 30, 32, 0, 1, (.methodLink RX8 30 yX8_isSun)), (32, .iload_n 3, 33, 0, 0, .tt), (33, .if_icmp .eq 25, 36, 58, 0, .tt), (36, .aload_n 0, 37, 0, 0, .tt), (37, .getfield 11, 40, 8, 0, (.fieldLink RX8 11 "CloudTakes$Sky" "sun" "[I")), (40, .iload 6, 42, 0, 0, .tt), (42, .iconst 5, 43, 0, 0, .tt), (43, .ishr, 44, 0, 0, .tt), (44, .dup2, 45, 0, 0, .tt), (45, .iaload, 46, 0, 0, .tt), (46, .iconst 1, 47, 0, 0, .tt), (47, .iload 6, 49, 0, 0, .tt), (49, .bipush 31, 51, 0, 0, .tt), (51, .iand, 52, 0, 0, .tt), (52, .ishl, 53, 0, 0, .tt), (53, .ixor, 54, 0, 0, .tt), (54, .iastore, 55, 0, 0, .tt), (55, .iinc 5 1, 58, 0, 0, .tt), (58, .iinc 6 1, 61, 0, 0, .tt), (61, .goto (-42), 64, 19, 0, .tt), (64, .iload 5, 66, 0, 0, .tt), (66, .ireturn, 67, 0, 0, .tt)]
def qX8_paint : mm_M := (yX8_paint, cX8_paint, 7, (some .int), [], kX8_paint)
set_option maxRecDepth 100000 in
theorem gX8_paint : mm_good qX8_paint := mm_good_of [0, 0, 686, 0, 0, 0, 0, 0, 689, 0, 0, 0, 0, 0, 0, 692, 0, 0, 0, 158, 0, 0, 0, 0, 0, 0, 0, 0, 0, 0, 0, 0, 0, 0, 0, 0, 0] rfl (by decide +kernel)
set_option maxRecDepth 100000 in
theorem aX8_paint : mm_cal qX8_paint 3 := ⟨rfl, mm_in 685 (by decide +kernel) rfl, mm_in 112 (by decide +kernel) rfl, by decide +kernel, by decide +kernel, by decide +kernel⟩
set_option maxRecDepth 100000 in
theorem iX8_paint : Cond.instanceMethod qX8_paint.1 ∈ mm_tbl := mm_in 683 (by decide +kernel) rfl
set_option maxRecDepth 100000 in
theorem sX8_paint : Cond.selects qX8_paint.1.cls qX8_paint.1 qX8_paint.1 ∈ mm_tbl := mm_in 684 (by decide +kernel) rfl
def kX7_init : List (Nat × mm_I) := [(0, .aload_n 0, 1, 0, 0, .tt), (1, .invokespecial 3, 4, 0, 0, (.methodLink RX7 3 objectInit)), (4, .aload_n 0, 5, 0, 0, .tt), (5, .iconst 0, 6, 0, 0, .tt), (6, .putfield 9, 9, 7, 0, (.fieldLink RX7 9 "CloudTakes$Shot" "kind" "I")), (9, .aload_n 0, 10, 0, 0, .tt), (10, .iconst 0, 11, 0, 0, .tt), (11, .putfield 15, 14, 7, 1, (.fieldLink RX7 15 "CloudTakes$Shot" "light" "I")), (14, .aload_n 0, 15, 0, 0, .tt), (15, .iconst 1, 16, 0, 0, .tt), (16, .putfield 18, 19, 7, 2, (.fieldLink RX7 18 "CloudTakes$Shot" "length" "I")), (19, .aload_n 0, 20, 0, 0, .tt), (20, .iconst 0, 21, 0, 0, .tt), (21, .putfield 21, 24, 7, 3, (.fieldLink RX7 21 "CloudTakes$Shot" "from" "I")), (24, .aload_n 0, 25, 0, 0, .tt), (25, .iconst 0, 26, 0, 0, .tt), (26, .putfield 24, 29, 7, 4, (.fieldLink RX7 24 "CloudTakes$Shot" "to" "I")), (29, .aload_n 0, 30, 0, 0, .tt), (30, .iconst (-1), 31, 0, 0, .tt), (31, .putfield 27, 34, 7, 5, (.fieldLink RX7 27 "CloudTakes$Shot" "after" "I")), (34, .return_, 35, 0, 0, .tt)]
def qX7_init : mm_M := (yX7_init, cX7_init, 1, none, [], kX7_init)
set_option maxRecDepth 100000 in
theorem gX7_init : mm_good qX7_init := mm_good_of [0, 195, 0, 0, 196, 0, 0, 201, 0, 0, 206, 0, 0, 212, 0, 0, 216, 0, 0, 221, 0] rfl (by decide +kernel)
set_option maxRecDepth 100000 in
theorem aX7_init : mm_cal qX7_init 0 := ⟨rfl, mm_in 194 (by decide +kernel) rfl, mm_in 114 (by decide +kernel) rfl, by decide +kernel, by decide +kernel, by decide +kernel⟩
set_option maxRecDepth 100000 in
theorem iX7_init : Cond.instanceMethod qX7_init.1 ∈ mm_tbl := mm_in 193 (by decide +kernel) rfl
def kX7_place : List (Nat × mm_I) := [(0, .aload_n 0, 1, 0, 0, .tt), (1, .getfield 9, 4, 7, 0, (.fieldLink RX7 9 "CloudTakes$Shot" "kind" "I")), (4, .iconst 2, 5, 0, 0, .tt), (5, .if_icmp .ne 7, 8, 12, 0, .tt), (8, .iconst 1, 9, 0, 0, .tt), (9, .goto 4, 12, 13, 0, .tt), (12, .iconst 0, 13, 0, 0, .tt), (13, .ireturn, 14, 0, 0, .tt)]
def qX7_place : mm_M := (yX7_place, cX7_place, 1, (some .int), [], kX7_place)
set_option maxRecDepth 100000 in
theorem gX7_place : mm_good qX7_place := mm_good_of [0, 196, 0, 0, 0, 0, 0, 0] rfl (by decide +kernel)
set_option maxRecDepth 100000 in
theorem aX7_place : mm_cal qX7_place 0 := ⟨rfl, mm_in 739 (by decide +kernel) rfl, mm_in 114 (by decide +kernel) rfl, by decide +kernel, by decide +kernel, by decide +kernel⟩
set_option maxRecDepth 100000 in
theorem iX7_place : Cond.instanceMethod qX7_place.1 ∈ mm_tbl := mm_in 737 (by decide +kernel) rfl
set_option maxRecDepth 100000 in
theorem sX7_place : Cond.selects qX7_place.1.cls qX7_place.1 qX7_place.1 ∈ mm_tbl := mm_in 738 (by decide +kernel) rfl
def kX9_init : List (Nat × mm_I) := [(0, .aload_n 0, 1, 0, 0, .tt), (1, .invokespecial 3, 4, 0, 0, (.methodLink RX9 3 objectInit)), (4, .aload_n 0, 5, 0, 0, .tt), (5, .iconst 0, 6, 0, 0, .tt), (6, .putfield 9, 9, 9, 0, (.fieldLink RX9 9 "CloudTakes$State" "now" "I")), (9, .aload_n 0, 10, 0, 0, .tt), (10, .iconst 0, 11, 0, 0, .tt), (11, .putfield 15, 14, 9, 1, (.fieldLink RX9 15 "CloudTakes$State" "place" "I")), (14, .aload_n 0, 15, 0, 0, .tt), (15, .iconst 0, 16, 0, 0, .tt), (16, .putfield 18, 19, 9, 2, (.fieldLink RX9 18 "CloudTakes$State" "had" "I")), (19, .aload_n 0, 20, 0, 0, .tt), (20, .iconst 0, 21, 0, 0, .tt), (21, .putfield 21, 24, 9, 3, (.fieldLink RX9 21 "CloudTakes$State" "film" "I")), (24, .aload_n 0, 25, 0, 0, .tt), (25, .iconst 0, 26, 0, 0, .tt), (26, .putfield 24, 29, 9, 4, (.fieldLink RX9 24 "CloudTakes$State" "waited" "I")), (29, .aload_n 0, 30, 0, 0, .tt), (30, .iconst 0, 31, 0, 0, .tt), (31, .putfield 27, 34, 9, 5, (.fieldLink RX9 27 "CloudTakes$State" "lamps" "Z")), (34, .aload_n 0, 35, 0, 0, .tt), (35, .iconst 0, 36, 0, 0, .tt), (36, .putfield 31, 39, 9, 6, (.fieldLink RX9 31 "CloudTakes$State" "silk" "Z")), (39, .aload_n 0, 40, 0, 0, .tt), (40, .bipush 8, 42, 0, 0, .tt), (42, .newarray .int, 44, 0, 0, .tt), (44, .putfield 34, 47, 9, 7, (.fieldLink RX9 34 "CloudTakes$State" "tries" "[I")), (47, .aload_n 0, 48, 0, 0, .tt), (48, .new 38, 51, 8, 1, (.classLink RX9 38 RX8)), (51, .dup, 52, 0, 0, .tt), (52, .invokespecial 40, 55, 0, 0, .tt), (55, .putfield 41, 58, 9, 8, (.fieldLink RX9 41 "CloudTakes$State" "sky" "LCloudTakes$Sky;")), (58, .return_, 59, 0, 0, .tt)]
def qX9_init : mm_M := (yX9_init, cX9_init, 1, none, [], kX9_init)
set_option maxRecDepth 100000 in
theorem gX9_init : mm_good qX9_init := mm_good_of [0, 354, 0, 0, 357, 0, 0, 362, 0, 0, 367, 0, 0, 371, 0, 0, 375, 0, 0, 379, 0, 0, 382, 0, 0, 0, 385, 0, 355, 0, 0, 389, 0] rfl (by decide +kernel)
set_option maxRecDepth 100000 in
theorem aX9_init : mm_cal qX9_init 0 := ⟨rfl, mm_in 353 (by decide +kernel) rfl, mm_in 118 (by decide +kernel) rfl, by decide +kernel, by decide +kernel, by decide +kernel⟩
set_option maxRecDepth 100000 in
theorem iX9_init : Cond.instanceMethod qX9_init.1 ∈ mm_tbl := mm_in 352 (by decide +kernel) rfl
def kX9_begins : List (Nat × mm_I) := [(0, .aload_n 0, 1, 0, 0, .tt), (1, .iconst 0, 2, 0, 0, .tt), (2, .putfield 9, 5, 9, 0, (.fieldLink RX9 9 "CloudTakes$State" "now" "I")), (5, .aload_n 0, 6, 0, 0, .tt), (6, .iconst 0, 7, 0, 0, .tt), (7, .putfield 15, 10, 9, 1, (.fieldLink RX9 15 "CloudTakes$State" "place" "I")), (10, .aload_n 0, 11, 0, 0, .tt), (11, .iconst 0, 12, 0, 0, .tt), (12, .putfield 18, 15, 9, 2, (.fieldLink RX9 18 "CloudTakes$State" "had" "I")), (15, .aload_n 0, 16, 0, 0, .tt), (16, .iconst 0, 17, 0, 0, .tt), (17, .putfield 21, 20, 9, 3, (.fieldLink RX9 21 "CloudTakes$State" "film" "I")), (20, .aload_n 0, 21, 0, 0, .tt), (21, .iconst 0, 22, 0, 0, .tt), (22, .putfield 24, 25, 9, 4, (.fieldLink RX9 24 "CloudTakes$State" "waited" "I")), (25, .aload_n 0, 26, 0, 0, .tt), (26, .iconst 0, 27, 0, 0, .tt), (27, .putfield 27, 30, 9, 5, (.fieldLink RX9 27 "CloudTakes$State" "lamps" "Z")), (30, .aload_n 0, 31, 0, 0, .tt), (31, .iconst 0, 32, 0, 0, .tt), (32, .putfield 31, 35, 9, 6, (.fieldLink RX9 31 "CloudTakes$State" "silk" "Z")), (35, .iconst 0, 36, 0, 0, .tt), (36, .istore_n 2, 37, 0, 0, .tt), (37, .iload_n 2, 38, 0, 0, .tt), (38, .bipush 8, 40, 0, 0, .tt), (40, .if_icmp .ge 16, 43, 56, 0, .tt), (43, .aload_n 0, 44, 0, 0, .tt), (44, .getfield 34, 47, 9, 7, (.fieldLink RX9 34 "CloudTakes$State" "tries" "[I")), (47, .iload_n 2, 48, 0, 0, .tt), (48, .iconst 0, 49, 0, 0, .tt), (49, .iastore, 50, 0, 0, .tt), (50, .iinc 2 1, 53, 0, 0, .tt), (53, .goto (-16), 56, 37, 0, .tt), (56, .aload_n 0, 57, 0, 0, .tt), (57, .getfield 41, 60, 9, 8, (.fieldLink RX9 41 "CloudTakes$State" "sky" "LCloudTakes$Sky;")), (60, .aload_n 1, 61, 0, 0, .tt), (61, .invokevirtual 45, 64, 0, 1, (.methodLink RX9 45 yX8_copyFrom)), (64, .return_, 65, 0, 0, .tt)]
def qX9_begins : mm_M := (yX9_begins, cX9_begins, 3, none, [], kX9_begins)
set_option maxRecDepth 100000 in
theorem gX9_begins : mm_good qX9_begins := mm_good_of [0, 0, 357, 0, 0, 362, 0, 0, 367, 0, 0, 371, 0, 0, 375, 0, 0, 379, 0, 0, 382, 0, 0, 0, 0, 0, 0, 385, 0, 0, 0, 0, 0, 0, 389, 0, 657, 0] rfl (by decide +kernel)
set_option maxRecDepth 100000 in
theorem aX9_begins : mm_cal qX9_begins 1 := ⟨rfl, mm_in 1240 (by decide +kernel) rfl, mm_in 118 (by decide +kernel) rfl, by decide +kernel, by decide +kernel, by decide +kernel⟩
set_option maxRecDepth 100000 in
theorem iX9_begins : Cond.instanceMethod qX9_begins.1 ∈ mm_tbl := mm_in 1238 (by decide +kernel) rfl
set_option maxRecDepth 100000 in
theorem sX9_begins : Cond.selects qX9_begins.1.cls qX9_begins.1 qX9_begins.1 ∈ mm_tbl := mm_in 1239 (by decide +kernel) rfl
def kX9_copyFrom : List (Nat × mm_I) := [(0, .aload_n 0, 1, 0, 0, .tt), (1, .aload_n 1, 2, 0, 0, .tt), (2, .getfield 9, 5, 9, 0, (.fieldLink RX9 9 "CloudTakes$State" "now" "I")), (5, .putfield 9, 8, 9, 0, (.fieldLink RX9 9 "CloudTakes$State" "now" "I")), (8, .aload_n 0, 9, 0, 0, .tt), (9, .aload_n 1, 10, 0, 0, .tt), (10, .getfield 15, 13, 9, 1, (.fieldLink RX9 15 "CloudTakes$State" "place" "I")), (13, .putfield 15, 16, 9, 1, (.fieldLink RX9 15 "CloudTakes$State" "place" "I")), (16, .aload_n 0, 17, 0, 0, .tt), (17, .aload_n 1, 18, 0, 0, .tt), (18, .getfield 18, 21, 9, 2, (.fieldLink RX9 18 "CloudTakes$State" "had" "I")), (21, .putfield 18, 24, 9, 2, (.fieldLink RX9 18 "CloudTakes$State" "had" "I")), (24, .aload_n 0, 25, 0, 0, .tt), (25, .aload_n 1, 26, 0, 0, .tt), (26, .getfield 21, 29, 9, 3, (.fieldLink RX9 21 "CloudTakes$State" "film" "I")), (29, .putfield 21, 32, 9, 3, (.fieldLink RX9 21 "CloudTakes$State" "film" "I")), (32, .aload_n 0, 33, 0, 0, .tt), (33, .aload_n 1, 34, 0, 0, .tt), (34, .getfield 24, 37, 9, 4, (.fieldLink RX9 24 "CloudTakes$State" "waited" "I")), (37, .putfield 24, 40, 9, 4, (.fieldLink RX9 24 "CloudTakes$State" "waited" "I")), (40, .aload_n 0, 41, 0, 0, .tt), (41, .aload_n 1, 42, 0, 0, .tt), (42, .getfield 27, 45, 9, 5, (.fieldLink RX9 27 "CloudTakes$State" "lamps" "Z")), (45, .putfield 27, 48, 9, 5, (.fieldLink RX9 27 "CloudTakes$State" "lamps" "Z")), (48, .aload_n 0, 49, 0, 0, .tt), (49, .aload_n 1, 50, 0, 0, .tt), (50, .getfield 31, 53, 9, 6, (.fieldLink RX9 31 "CloudTakes$State" "silk" "Z")), (53, .putfield 31, 56, 9, 6, (.fieldLink RX9 31 "CloudTakes$State" "silk" "Z")), (56, .aload_n 1, 57, 0, 0, .tt), (57, .getfield 34, 60, 9, 7, (.fieldLink RX9 34 "CloudTakes$State" "tries" "[I")), (60, .iconst 0, 61, 0, 0, .tt), (61, .aload_n 0, 62, 0, 0, .tt), (62, .getfield 34, 65, 9, 7, (.fieldLink RX9 34 "CloudTakes$State" "tries" "[I")), (65, .iconst 0, 66, 0, 0, .tt), (66, .bipush 8, 68, 0, 0, .tt), (68, .invokestatic 49, 71, 0, 5, (.methodLink RX9 49 ⟨"java/lang/System", "arraycopy", "(Ljava/lang/Object;ILjava/lang/Object;II)V"⟩)), (71, .aload_n 0, 72, 0, 0, .tt), (72, .getfield 41, 75, 9, 8, (.fieldLink RX9 41 "CloudTakes$State" "sky" "LCloudTakes$Sky;")), (75, .aload_n 1, 76, 0, 0, .tt), (76, .getfield 41, 79, 9, 8, (.fieldLink RX9 41 "CloudTakes$State" "sky" "LCloudTakes$Sky;")), (79, .invokevirtual 45, 82, 0, 1, (.methodLink RX9 45 yX8_copyFrom)), (82, .return_, 83, 0, 0, .tt)]
def qX9_copyFrom : mm_M := (yX9_copyFrom, cX9_copyFrom, 2, none, [], kX9_copyFrom)
set_option maxRecDepth 100000 in
theorem gX9_copyFrom : mm_good qX9_copyFrom := mm_good_of [0, 0, 357, 357, 0, 0, 362, 362, 0, 0, 367, 367, 0, 0, 371, 371, 0, 0, 375, 375, 0, 0, 379, 379, 0, 0, 382, 382, 0, 385, 0, 0, 385, 0, 0, 654, 0, 389, 0, 389, 657, 0] rfl (by decide +kernel)
set_option maxRecDepth 100000 in
theorem aX9_copyFrom : mm_cal qX9_copyFrom 1 := ⟨rfl, mm_in 653 (by decide +kernel) rfl, mm_in 118 (by decide +kernel) rfl, by decide +kernel, by decide +kernel, by decide +kernel⟩
set_option maxRecDepth 100000 in
theorem iX9_copyFrom : Cond.instanceMethod qX9_copyFrom.1 ∈ mm_tbl := mm_in 651 (by decide +kernel) rfl
set_option maxRecDepth 100000 in
theorem sX9_copyFrom : Cond.selects qX9_copyFrom.1.cls qX9_copyFrom.1 qX9_copyFrom.1 ∈ mm_tbl := mm_in 652 (by decide +kernel) rfl
def kX9_isHad : List (Nat × mm_I) := [(0, .aload_n 0, 1, 0, 0, .tt), (1, .getfield 18, 4, 9, 2, (.fieldLink RX9 18 "CloudTakes$State" "had" "I")), (4, .iload_n 1, 5, 0, 0, .tt), (5, .ishr, 6, 0, 0, .tt), (6, .iconst 1, 7, 0, 0, .tt), (7, .iand, 8, 0, 0, .tt), (8, .iconst 1, 9, 0, 0, .tt), (9, .if_icmp .ne 7, 12, 16, 0, .tt), (12, .iconst 1, 13, 0, 0, .tt), (13, .goto 4, 16, 17, 0, .tt), (16, .iconst 0, 17, 0, 0, .tt), (17, .ireturn, 18, 0, 0, .tt)]
def qX9_isHad : mm_M := (yX9_isHad, cX9_isHad, 2, (some .boolean), [], kX9_isHad)
set_option maxRecDepth 100000 in
theorem gX9_isHad : mm_good qX9_isHad := mm_good_of [0, 367, 0, 0, 0, 0, 0, 0, 0, 0, 0, 0] rfl (by decide +kernel)
set_option maxRecDepth 100000 in
theorem aX9_isHad : mm_cal qX9_isHad 1 := ⟨rfl, mm_in 735 (by decide +kernel) rfl, mm_in 118 (by decide +kernel) rfl, by decide +kernel, by decide +kernel, by decide +kernel⟩
set_option maxRecDepth 100000 in
theorem iX9_isHad : Cond.instanceMethod qX9_isHad.1 ∈ mm_tbl := mm_in 733 (by decide +kernel) rfl
set_option maxRecDepth 100000 in
theorem sX9_isHad : Cond.selects qX9_isHad.1.cls qX9_isHad.1 qX9_isHad.1 ∈ mm_tbl := mm_in 734 (by decide +kernel) rfl
def kX9_waits : List (Nat × mm_I) := [(0, .aload_n 0, 1, 0, 0, .tt), (1, .dup, 2, 0, 0, .tt), (2, .getfield 9, 5, 9, 0, (.fieldLink RX9 9 "CloudTakes$State" "now" "I")), (5, .iload_n 1, 6, 0, 0, .tt), (6, .iadd, 7, 0, 0, .tt), (7, .putfield 9, 10, 9, 0, (.fieldLink RX9 9 "CloudTakes$State" "now" "I")), (10, .aload_n 0, 11, 0, 0, .tt), (11, .dup, 12, 0, 0, .tt), (12, .getfield 24, 15, 9, 4, (.fieldLink RX9 24 "CloudTakes$State" "waited" "I")), (15, .iload_n 1, 16, 0, 0, .tt), (16, .iadd, 17, 0, 0, .tt), (17, .putfield 24, 20, 9, 4, (.fieldLink RX9 24 "CloudTakes$State" "waited" "I")), (20, .return_, 21, 0, 0, .tt)]
def qX9_waits : mm_M := (yX9_waits, cX9_waits, 2, none, [], kX9_waits)
set_option maxRecDepth 100000 in
theorem gX9_waits : mm_good qX9_waits := mm_good_of [0, 0, 357, 0, 0, 357, 0, 0, 375, 0, 0, 375, 0] rfl (by decide +kernel)
set_option maxRecDepth 100000 in
theorem aX9_waits : mm_cal qX9_waits 1 := ⟨rfl, mm_in 665 (by decide +kernel) rfl, mm_in 118 (by decide +kernel) rfl, by decide +kernel, by decide +kernel, by decide +kernel⟩
set_option maxRecDepth 100000 in
theorem iX9_waits : Cond.instanceMethod qX9_waits.1 ∈ mm_tbl := mm_in 663 (by decide +kernel) rfl
set_option maxRecDepth 100000 in
theorem sX9_waits : Cond.selects qX9_waits.1.cls qX9_waits.1 qX9_waits.1 ∈ mm_tbl := mm_in 664 (by decide +kernel) rfl
def kX9_goesOver : List (Nat × mm_I) := [(0, .aload_n 0, 1, 0, 0, .tt), (1, .aload_n 0, 2, 0, 0, .tt), (2, .getfield 15, 5, 9, 1, (.fieldLink RX9 15 "CloudTakes$State" "place" "I")), (5, .ifCond .ne 7, 8, 12, 0, .tt), (8, .iconst 1, 9, 0, 0, .tt), (9, .goto 4, 12, 13, 0, .tt), (12, .iconst 0, 13, 0, 0, .tt), (13, .putfield 15, 16, 9, 1, (.fieldLink RX9 15 "CloudTakes$State" "place" "I")), (16, .aload_n 0, 17, 0, 0, .tt), (17, .dup, 18, 0, 0, .tt), (18, .getfield 9, 21, 9, 0, (.fieldLink RX9 9 "CloudTakes$State" "now" "I")), (21, .iload_n 1, 22, 0, 0, .tt), (22, .iadd, 23, 0, 0, .tt), (23, .putfield 9, 26, 9, 0, (.fieldLink RX9 9 "CloudTakes$State" "now" "I")), (26, .aload_n 0, 27, 0, 0, .tt), (27, .iconst 0, 28, 0, 0, .tt), (28, .putfield 24, 31, 9, 4, (.fieldLink RX9 24 "CloudTakes$State" "waited" "I")), (31, .return_, 32, 0, 0, .tt)]
def qX9_goesOver : mm_M := (yX9_goesOver, cX9_goesOver, 2, none, [], kX9_goesOver)
set_option maxRecDepth 100000 in
theorem gX9_goesOver : mm_good qX9_goesOver := mm_good_of [0, 0, 362, 0, 0, 0, 0, 362, 0, 0, 357, 0, 0, 357, 0, 0, 375, 0] rfl (by decide +kernel)
set_option maxRecDepth 100000 in
theorem aX9_goesOver : mm_cal qX9_goesOver 1 := ⟨rfl, mm_in 673 (by decide +kernel) rfl, mm_in 118 (by decide +kernel) rfl, by decide +kernel, by decide +kernel, by decide +kernel⟩
set_option maxRecDepth 100000 in
theorem iX9_goesOver : Cond.instanceMethod qX9_goesOver.1 ∈ mm_tbl := mm_in 671 (by decide +kernel) rfl
set_option maxRecDepth 100000 in
theorem sX9_goesOver : Cond.selects qX9_goesOver.1.cls qX9_goesOver.1 qX9_goesOver.1 ∈ mm_tbl := mm_in 672 (by decide +kernel) rfl
def kX9_putOn : List (Nat × mm_I) := [(0, .iload_n 1, 1, 0, 0, .tt), (1, .ifCond .ne 11, 4, 12, 0, .tt), (4, .aload_n 0, 5, 0, 0, .tt), (5, .iload_n 2, 6, 0, 0, .tt), (6, .putfield 27, 9, 9, 5, (.fieldLink RX9 27 "CloudTakes$State" "lamps" "Z")), (9, .goto 8, 12, 17, 0, .tt), (12, .aload_n 0, 13, 0, 0, .tt), (13, .iload_n 2, 14, 0, 0, .tt), (14, .putfield 31, 17, 9, 6, (.fieldLink RX9 31 "CloudTakes$State" "silk" "Z")), (17, .return_, 18, 0, 0, .tt)]
def qX9_putOn : mm_M := (yX9_putOn, cX9_putOn, 3, none, [], kX9_putOn)
set_option maxRecDepth 100000 in
theorem gX9_putOn : mm_good qX9_putOn := mm_good_of [0, 0, 0, 0, 379, 0, 0, 0, 382, 0] rfl (by decide +kernel)
set_option maxRecDepth 100000 in
theorem aX9_putOn : mm_cal qX9_putOn 2 := ⟨rfl, mm_in 1348 (by decide +kernel) rfl, mm_in 118 (by decide +kernel) rfl, by decide +kernel, by decide +kernel, by decide +kernel⟩
set_option maxRecDepth 100000 in
theorem iX9_putOn : Cond.instanceMethod qX9_putOn.1 ∈ mm_tbl := mm_in 1346 (by decide +kernel) rfl
set_option maxRecDepth 100000 in
theorem sX9_putOn : Cond.selects qX9_putOn.1.cls qX9_putOn.1 qX9_putOn.1 ∈ mm_tbl := mm_in 1347 (by decide +kernel) rfl
