def kX3_init : List (Nat × mm_I) := [(0, .aload_n 0, 1, 0, 0, .tt), (1, .invokespecial 3, 4, 0, 0, (.methodLink RX3 3 objectInit)), (4, .aload_n 0, 5, 0, 0, .tt), (5, .sipush 240, 8, 0, 0, .tt), (8, .putfield 11, 11, 3, 0, (.fieldLink RX3 11 "CloudTakes$Plan" "day" "I")), (11, .aload_n 0, 12, 0, 0, .tt), (12, .bipush 50, 14, 0, 0, .tt), (14, .putfield 15, 17, 3, 1, (.fieldLink RX3 15 "CloudTakes$Plan" "move" "I")), (17, .aload_n 0, 18, 0, 0, .tt), (18, .iconst 1, 19, 0, 0, .tt), (19, .putfield 18, 22, 3, 2, (.fieldLink RX3 18 "CloudTakes$Plan" "cold" "I")), (22, .aload_n 0, 23, 0, 0, .tt), (23, .iconst 0, 24, 0, 0, .tt), (24, .putfield 21, 27, 3, 3, (.fieldLink RX3 21 "CloudTakes$Plan" "shotCount" "I")), (27, .aload_n 0, 28, 0, 0, .tt), (28, .iconst 0, 29, 0, 0, .tt), (29, .putfield 24, 32, 3, 4, (.fieldLink RX3 24 "CloudTakes$Plan" "partCount" "I")), (32, .aload_n 0, 33, 0, 0, .tt), (33, .iconst 0, 34, 0, 0, .tt), (34, .putfield 27, 37, 3, 5, (.fieldLink RX3 27 "CloudTakes$Plan" "minutesTold" "I")), (37, .aload_n 0, 38, 0, 0, .tt), (38, .bipush 8, 40, 0, 0, .tt), (40, .anewarray 30, 43, 0, 0, (.classLink RX3 30 RX7)), (43, .putfield 32, 46, 3, 6, (.fieldLink RX3 32 "CloudTakes$Plan" "shots" "[LCloudTakes$Shot;")), (46, .aload_n 0, 47, 0, 0, .tt), (47, .new 36, 50, 8, 1, (.classLink RX3 36 RX8)), (50, .dup, 51, 0, 0, .tt), (51, .invokespecial 38, 54, 0, 0, .tt), (54, .putfield 39, 57, 3, 7, (.fieldLink RX3 39 "CloudTakes$Plan" "sky" "LCloudTakes$Sky;")), (57, .aload_n 0, 58, 0, 0, .tt), (58, .new 43, 61, 4, 6, (.classLink RX3 43 RX4)), (61, .dup, 62, 0, 0, .tt), (62, .invokespecial 45, 65, 0, 0, .tt), (65, .putfield 46, 68, 3, 8, (.fieldLink RX3 46 "CloudTakes$Plan" "rules" "LCloudTakes$Rules;")), (68, .iconst 0, 69, 0, 0, .tt), (69, .istore_n 1, 70, 0, 0, .tt), (70, .iload_n 1, 71, 0, 0, .tt), (71, .bipush 8, 73, 0, 0, .tt), (73, .if_icmp .ge 22, 76, 95, 0, .tt), (76, .aload_n 0, 77, 0, 0, .tt), (77, .getfield 32, 80, 3, 6, (.fieldLink RX3 32 "CloudTakes$Plan" "shots" "[LCloudTakes$Shot;")), (80, .iload_n 1, 81, 0, 0, .tt), (81, .new 30, 84, 7, 6, (.classLink RX3 30 RX7)), (84, .dup, 85, 0, 0, .tt), (85, .invokespecial 50, 88, 0, 0, .tt), (88, .aastore, 89, 0, 0, .tt), (89, .iinc 1 1, 92, 0, 0, .tt), (92, .goto (-22), 95, 70, 0, .tt), (95, .return_, 96, 0, 0, .tt)]
def qX3_init : mm_M := (yX3_init, cX3_init, 2, none, [], kX3_init)
set_option maxRecDepth 100000 in
theorem gX3_init : mm_good qX3_init := mm_good_of [0, 149, 0, 0, 240, 0, 0, 244, 0, 0, 249, 0, 0, 252, 0, 0, 257, 0, 0, 259, 0, 0, 150, 260, 0, 152, 0, 0, 265, 0, 164, 0, 0, 267, 0, 0, 0, 0, 0, 0, 260, 0, 150, 0, 0, 0, 0, 0, 0] rfl (by decide +kernel)
set_option maxRecDepth 100000 in
theorem aX3_init : mm_cal qX3_init 0 := ⟨rfl, mm_in 148 (by decide +kernel) rfl, mm_in 111 (by decide +kernel) rfl, by decide +kernel, by decide +kernel, by decide +kernel⟩
set_option maxRecDepth 100000 in
theorem iX3_init : Cond.instanceMethod qX3_init.1 ∈ mm_tbl := mm_in 147 (by decide +kernel) rfl
def kX3_clears : List (Nat × mm_I) := [(0, .aload_n 0, 1, 0, 0, .tt), (1, .sipush 240, 4, 0, 0, .tt), (4, .putfield 11, 7, 3, 0, (.fieldLink RX3 11 "CloudTakes$Plan" "day" "I")), (7, .aload_n 0, 8, 0, 0, .tt), (8, .bipush 50, 10, 0, 0, .tt), (10, .putfield 15, 13, 3, 1, (.fieldLink RX3 15 "CloudTakes$Plan" "move" "I")), (13, .aload_n 0, 14, 0, 0, .tt), (14, .iconst 1, 15, 0, 0, .tt), (15, .putfield 18, 18, 3, 2, (.fieldLink RX3 18 "CloudTakes$Plan" "cold" "I")), (18, .aload_n 0, 19, 0, 0, .tt), (19, .iconst 0, 20, 0, 0, .tt), (20, .putfield 21, 23, 3, 3, (.fieldLink RX3 21 "CloudTakes$Plan" "shotCount" "I")), (23, .aload_n 0, 24, 0, 0, .tt), (24, .iconst 0, 25, 0, 0, .tt), (25, .putfield 24, 28, 3, 4, (.fieldLink RX3 24 "CloudTakes$Plan" "partCount" "I")), (28, .aload_n 0, 29, 0, 0, .tt), (29, .iconst 0, 30, 0, 0, .tt), (30, .putfield 27, 33, 3, 5, (.fieldLink RX3 27 "CloudTakes$Plan" "minutesTold" "I")), (33, .aload_n 0, 34, 0, 0, .tt), (34, .getfield 39, 37, 3, 7, (.fieldLink RX3 39 "CloudTakes$Plan" "sky" "LCloudTakes$Sky;")), (37, .invokevirtual 51, 40, 0, 0, (.methodLink RX3 51 yX8_clears)), (40, .aload_n 0, 41, 0, 0, .tt), (41, .getfield 46, 44, 3, 8, (.fieldLink RX3 46 "CloudTakes$Plan" "rules" "LCloudTakes$Rules;")), (44, .invokevirtual 54, 47, 0, 0, (.methodLink RX3 54 yX4_clears)), (47, .return_, 48, 0, 0, .tt)]
def qX3_clears : mm_M := (yX3_clears, cX3_clears, 1, none, [], kX3_clears)
set_option maxRecDepth 100000 in
theorem gX3_clears : mm_good qX3_clears := mm_good_of [0, 0, 240, 0, 0, 244, 0, 0, 249, 0, 0, 252, 0, 0, 257, 0, 0, 259, 0, 265, 984, 0, 267, 988, 0] rfl (by decide +kernel)
set_option maxRecDepth 100000 in
theorem aX3_clears : mm_cal qX3_clears 0 := ⟨rfl, mm_in 983 (by decide +kernel) rfl, mm_in 111 (by decide +kernel) rfl, by decide +kernel, by decide +kernel, by decide +kernel⟩
set_option maxRecDepth 100000 in
theorem iX3_clears : Cond.instanceMethod qX3_clears.1 ∈ mm_tbl := mm_in 981 (by decide +kernel) rfl
set_option maxRecDepth 100000 in
theorem sX3_clears : Cond.selects qX3_clears.1.cls qX3_clears.1 qX3_clears.1 ∈ mm_tbl := mm_in 982 (by decide +kernel) rfl
def kX3_isShot : List (Nat × mm_I) := [(0, .iload_n 1, 1, 0, 0, .tt), (1, .ifCond .lt 15, 4, 16, 0, .tt), (4, .iload_n 1, 5, 0, 0, .tt), (5, .aload_n 0, 6, 0, 0, .tt), (6, .getfield 21, 9, 3, 3, (.fieldLink RX3 21 "CloudTakes$Plan" "shotCount" "I")), (9, .if_icmp .ge 7, 12, 16, 0, .tt), (12, .iconst 1, 13, 0, 0, .tt), (13, .goto 4, 16, 17, 0, .tt), (16, .iconst 0, 17, 0, 0, .tt), (17, .ireturn, 18, 0, 0, .tt)]
def qX3_isShot : mm_M := (yX3_isShot, cX3_isShot, 2, (some .boolean), [], kX3_isShot)
set_option maxRecDepth 100000 in
theorem gX3_isShot : mm_good qX3_isShot := mm_good_of [0, 0, 0, 0, 252, 0, 0, 0, 0, 0] rfl (by decide +kernel)
set_option maxRecDepth 100000 in
theorem aX3_isShot : mm_cal qX3_isShot 1 := ⟨rfl, mm_in 1280 (by decide +kernel) rfl, mm_in 111 (by decide +kernel) rfl, by decide +kernel, by decide +kernel, by decide +kernel⟩
set_option maxRecDepth 100000 in
theorem iX3_isShot : Cond.instanceMethod qX3_isShot.1 ∈ mm_tbl := mm_in 1278 (by decide +kernel) rfl
set_option maxRecDepth 100000 in
theorem sX3_isShot : Cond.selects qX3_isShot.1.cls qX3_isShot.1 qX3_isShot.1 ∈ mm_tbl := mm_in 1279 (by decide +kernel) rfl
def kX3_isMinute : List (Nat × mm_I) := [(0, .iload_n 1, 1, 0, 0, .tt), (1, .ifCond .lt 15, 4, 16, 0, .tt), (4, .iload_n 1, 5, 0, 0, .tt), (5, .aload_n 0, 6, 0, 0, .tt), (6, .getfield 11, 9, 3, 0, (.fieldLink RX3 11 "CloudTakes$Plan" "day" "I")), (9, .if_icmp .ge 7, 12, 16, 0, .tt), (12, .iconst 1, 13, 0, 0, .tt), (13, .goto 4, 16, 17, 0, .tt), (16, .iconst 0, 17, 0, 0, .tt), (17, .ireturn, 18, 0, 0, .tt)]
def qX3_isMinute : mm_M := (yX3_isMinute, cX3_isMinute, 2, (some .boolean), [], kX3_isMinute)
set_option maxRecDepth 100000 in
theorem gX3_isMinute : mm_good qX3_isMinute := mm_good_of [0, 0, 0, 0, 240, 0, 0, 0, 0, 0] rfl (by decide +kernel)
set_option maxRecDepth 100000 in
theorem aX3_isMinute : mm_cal qX3_isMinute 1 := ⟨rfl, mm_in 681 (by decide +kernel) rfl, mm_in 111 (by decide +kernel) rfl, by decide +kernel, by decide +kernel, by decide +kernel⟩
set_option maxRecDepth 100000 in
theorem iX3_isMinute : Cond.instanceMethod qX3_isMinute.1 ∈ mm_tbl := mm_in 679 (by decide +kernel) rfl
set_option maxRecDepth 100000 in
theorem sX3_isMinute : Cond.selects qX3_isMinute.1.cls qX3_isMinute.1 qX3_isMinute.1 ∈ mm_tbl := mm_in 680 (by decide +kernel) rfl
def kX3_shotsAt : List (Nat × mm_I) := [(0, .iconst 0, 1, 0, 0, .tt), (1, .istore_n 2, 2, 0, 0, .tt), (2, .iconst 0, 3, 0, 0, .tt), (3, .istore_n 3, 4, 0, 0, .tt), (4, .iload_n 3, 5, 0, 0, .tt), (5, .aload_n 0, 6, 0, 0, .tt), (6, .getfield 21, 9, 3, 3, (.fieldLink RX3 21 "CloudTakes$Plan" "shotCount" "I")), (9, .if_icmp .ge 28, 12, 37, 0, .tt), (12, .aload_n 0, 13, 0, 0, .tt), (13, .getfield 32, 16, 3, 6, (.fieldLink RX3 32 "CloudTakes$Plan" "shots" "[LCloudTakes$Shot;")), (16, .iload_n 3, 17, 0, 0, .tt), (17, .aaload, 18, 0, 0, .tt), (18, .invokevirtual 55, 21, 0, 0, (.methodLink RX3 55 yX7_place)), (21, .iload_n 1, 22, 0, 0, .tt), (22, .if_icmp .ne 9, 25, 31, 0, .tt), (25, .iload_n 2, 26, 0, 0, .tt), (26, .iconst 1, 27, 0, 0, .tt), (27, .iload_n 3, 28, 0, 0, .tt), (28, .ishl, 29, 0, 0, .tt), (29, .ior, 30, 0, 0, .tt), (30, .istore_n 2, 31, 0, 0, .tt), (31, .iinc 3 1, 34, 0, 0, .tt), (34, .goto (-30), 37, 4, 0, .tt), (37, .iload_n 2, 38, 0, 0, .tt), (38, .ireturn, 39, 0, 0, .tt)]
def qX3_shotsAt : mm_M := (yX3_shotsAt, cX3_shotsAt, 4, (some .int), [], kX3_shotsAt)
set_option maxRecDepth 100000 in
theorem gX3_shotsAt : mm_good qX3_shotsAt := mm_good_of [0, 0, 0, 0, 0, 0, 252, 0, 0, 260, 0, 0, 803, 0, 0, 0, 0, 0, 0, 0, 0, 0, 0, 0, 0] rfl (by decide +kernel)
set_option maxRecDepth 100000 in
theorem aX3_shotsAt : mm_cal qX3_shotsAt 1 := ⟨rfl, mm_in 802 (by decide +kernel) rfl, mm_in 111 (by decide +kernel) rfl, by decide +kernel, by decide +kernel, by decide +kernel⟩
set_option maxRecDepth 100000 in
theorem iX3_shotsAt : Cond.instanceMethod qX3_shotsAt.1 ∈ mm_tbl := mm_in 800 (by decide +kernel) rfl
set_option maxRecDepth 100000 in
theorem sX3_shotsAt : Cond.selects qX3_shotsAt.1.cls qX3_shotsAt.1 qX3_shotsAt.1 ∈ mm_tbl := mm_in 801 (by decide +kernel) rfl
def kX3_addPart : List (Nat × mm_I) := [(0, .aload_n 0, 1, 0, 0, .tt), (1, .getfield 39, 4, 3, 7, (.fieldLink RX3 39 "CloudTakes$Plan" "sky" "LCloudTakes$Sky;")), (4, .aload_n 0, 5, 0, 0, .tt), (5, .getfield 27, 8, 3, 5, (.fieldLink RX3 27 "CloudTakes$Plan" "minutesTold" "I")), (8, .aload_n 0, 9, 0, 0, .tt), (9, .getfield 27, 12, 3, 5, (.fieldLink RX3 27 "CloudTakes$Plan" "minutesTold" "I")), (12, .iload_n 2, 13, 0, 0, .tt), (13, .iadd, 14, 0, 0, .tt), (14, .iconst 1, 15, 0, 0, .tt), (15, .isub, 16, 0, 0, .tt), (16, .iload_n 1, 17, 0, 0, .tt), (17, .invokevirtual 59, 20, 0, 3, (.methodLink RX3 59 yX8_paint)), (20, .pop, 21, 0, 0, .tt), (21, .aload_n 0, 22, 0, 0, .tt), (22, .dup, 23, 0, 0, .tt), (23, .getfield 27, 26, 3, 5, (.fieldLink RX3 27 "CloudTakes$Plan" "minutesTold" "I")), (26, .iload_n 2, 27, 0, 0, .tt), (27, .iadd, 28, 0, 0, .tt), (28, .putfield 27, 31, 3, 5, (.fieldLink RX3 27 "CloudTakes$Plan" "minutesTold" "I")), (31, .aload_n 0, 32, 0, 0, .tt), (32, .dup, 33, 0, 0, .tt), (33, .getfield 24, 36, 3, 4, (.fieldLink RX3 24 "CloudTakes$Plan" "partCount" "I")), (36, .iconst 1, 37, 0, 0, .tt), (37, .iadd, 38, 0, 0, .tt), (38, .putfield 24, 41, 3, 4, (.fieldLink RX3 24 "CloudTakes$Plan" "partCount" "I")), (41, .return_, 42, 0, 0, .tt)]
def qX3_addPart : mm_M := (yX3_addPart, cX3_addPart, 3, none, [], kX3_addPart)
set_option maxRecDepth 100000 in
theorem gX3_addPart : mm_good qX3_addPart := mm_good_of [0, 265, 0, 259, 0, 259, 0, 0, 0, 0, 0, 1158, 0, 0, 0, 259, 0, 0, 259, 0, 0, 257, 0, 0, 257, 0] rfl (by decide +kernel)
set_option maxRecDepth 100000 in
theorem aX3_addPart : mm_cal qX3_addPart 2 := ⟨rfl, mm_in 1157 (by decide +kernel) rfl, mm_in 111 (by decide +kernel) rfl, by decide +kernel, by decide +kernel, by decide +kernel⟩
set_option maxRecDepth 100000 in
theorem iX3_addPart : Cond.instanceMethod qX3_addPart.1 ∈ mm_tbl := mm_in 1155 (by decide +kernel) rfl
set_option maxRecDepth 100000 in
theorem sX3_addPart : Cond.selects qX3_addPart.1.cls qX3_addPart.1 qX3_addPart.1 ∈ mm_tbl := mm_in 1156 (by decide +kernel) rfl
def kX3_addShot : List (Nat × mm_I) := [(0, .aload_n 0, 1, 0, 0, .tt), (1, .getfield 32, 4, 3, 6, (.fieldLink RX3 32 "CloudTakes$Plan" "shots" "[LCloudTakes$Shot;")), (4, .aload_n 0, 5, 0, 0, .tt), (5, .getfield 21, 8, 3, 3, (.fieldLink RX3 21 "CloudTakes$Plan" "shotCount" "I")), (8, .bipush 7, 10, 0, 0, .tt), (10, .invokestatic 63, 13, 0, 2, (.methodLink RX3 63 yJ9_min_7cf53)), (13, .aaload, 14, 0, 0, .tt), (14, .astore_n 1, 15, 0, 0, .tt), (15, .aload_n 0, 16, 0, 0, .tt), (16, .aload_n 0, 17, 0, 0, .tt), (17, .getfield 21, 20, 3, 3, (.fieldLink RX3 21 "CloudTakes$Plan" "shotCount" "I")), (20, .iconst 1, 21, 0, 0, .tt), (21, .iadd, 22, 0, 0, .tt), (22, .bipush 8, 24, 0, 0, .tt), (24, .invokestatic 63, 27, 0, 2, (.methodLink RX3 63 yJ9_min_7cf53)), (27, .putfield 21, 30, 3, 3, (.fieldLink RX3 21 "CloudTakes$Plan" "shotCount" "I")), (30, .aload_n 1, 31, 0, 0, .tt), (31, .areturn, 32, 0, 0, .tt)]
def qX3_addShot : mm_M := (yX3_addShot, cX3_addShot, 2, (some (.object "CloudTakes$Shot")), [], kX3_addShot)
set_option maxRecDepth 100000 in
theorem gX3_addShot : mm_good qX3_addShot := mm_good_of [0, 260, 0, 252, 0, 1167, 0, 0, 0, 0, 252, 0, 0, 0, 1167, 252, 0, 0] rfl (by decide +kernel)
set_option maxRecDepth 100000 in
theorem aX3_addShot : mm_cal qX3_addShot 0 := ⟨rfl, mm_in 1166 (by decide +kernel) rfl, mm_in 111 (by decide +kernel) rfl, by decide +kernel, by decide +kernel, by decide +kernel⟩
set_option maxRecDepth 100000 in
theorem iX3_addShot : Cond.instanceMethod qX3_addShot.1 ∈ mm_tbl := mm_in 1164 (by decide +kernel) rfl
set_option maxRecDepth 100000 in
theorem sX3_addShot : Cond.selects qX3_addShot.1.cls qX3_addShot.1 qX3_addShot.1 ∈ mm_tbl := mm_in 1165 (by decide +kernel) rfl
