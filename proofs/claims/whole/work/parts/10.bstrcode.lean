def kJ0_length_8abf5 : List (Nat × mm_I) := [(0, .aload_n 0, 1, 0, 0, .tt), (1, .getfield 9, 4, 0, 0, (.fieldLink RJ0 9 "java/lang/String" "value" "[B")), (4, .arraylength, 5, 0, 0, .tt), (5, .aload_n 0, 6, 0, 0, .tt), (6, .invokevirtual 335, 9, 0, 0, (.methodLink RJ0 335 yJ0_coder_7d493)), (9, .ishr, 10, 0, 0, .tt), (10, .ireturn, 11, 0, 0, .tt)]
def qJ0_length_8abf5 : mm_M := (yJ0_length_8abf5, cJ0_length_8abf5, 1, (some .int), [], kJ0_length_8abf5)
set_option maxRecDepth 100000 in
theorem gJ0_length_8abf5 : mm_good qJ0_length_8abf5 := mm_good_of [0, 2185, 0, 0, 1025, 0, 0] rfl (by decide +kernel)
set_option maxRecDepth 100000 in
theorem aJ0_length_8abf5 : mm_cal qJ0_length_8abf5 0 := ⟨rfl, mm_in 1024 (by decide +kernel) rfl, mm_in 129 (by decide +kernel) rfl, by decide +kernel, by decide +kernel, by decide +kernel⟩
set_option maxRecDepth 100000 in
theorem iJ0_length_8abf5 : Cond.instanceMethod qJ0_length_8abf5.1 ∈ mm_tbl := mm_in 1022 (by decide +kernel) rfl
set_option maxRecDepth 100000 in
theorem sJ0_length_8abf5 : Cond.selects qJ0_length_8abf5.1.cls qJ0_length_8abf5.1 qJ0_length_8abf5.1 ∈ mm_tbl := mm_in 1023 (by decide +kernel) rfl
def kJ0_charAt_5068e : List (Nat × mm_I) := [(0, .aload_n 0, 1, 0, 0, .tt), (1, .invokevirtual 492, 4, 0, 0, (.methodLink RJ0 492 yJ0_isLatin1_aae02)), (4, .ifCond .eq 12, 7, 16, 0, .tt), (7, .aload_n 0, 8, 0, 0, .tt), (8, .getfield 9, 11, 0, 0, (.fieldLink RJ0 9 "java/lang/String" "value" "[B")), (11, .iload_n 1, 12, 0, 0, .tt), (12, .invokestatic 495, 15, 0, 2, (.methodLink RJ0 495 yJ1_charAt_3b067)), (15, .ireturn, 16, 0, 0, .tt), (16, .aload_n 0, 17, 0, 0, .tt), (17, .getfield 9, 20, 0, 0, (.fieldLink RJ0 9 "java/lang/String" "value" "[B")), (20, .iload_n 1, 21, 0, 0, .tt), (21, .invokestatic 498, 24, 0, 2, (.methodLink RJ0 498 yJ2_charAt_3b067)), (24, .ireturn, 25, 0, 0, .tt)]
def qJ0_charAt_5068e : mm_M := (yJ0_charAt_5068e, cJ0_charAt_5068e, 2, (some .char), [], kJ0_charAt_5068e)
set_option maxRecDepth 100000 in
theorem gJ0_charAt_5068e : mm_good qJ0_charAt_5068e := mm_good_of [0, 1015, 0, 0, 2185, 0, 1107, 0, 0, 2185, 0, 1116, 0] rfl (by decide +kernel)
set_option maxRecDepth 100000 in
theorem aJ0_charAt_5068e : mm_cal qJ0_charAt_5068e 1 := ⟨rfl, mm_in 1106 (by decide +kernel) rfl, mm_in 129 (by decide +kernel) rfl, by decide +kernel, by decide +kernel, by decide +kernel⟩
set_option maxRecDepth 100000 in
theorem iJ0_charAt_5068e : Cond.instanceMethod qJ0_charAt_5068e.1 ∈ mm_tbl := mm_in 1104 (by decide +kernel) rfl
set_option maxRecDepth 100000 in
theorem sJ0_charAt_5068e : Cond.selects qJ0_charAt_5068e.1.cls qJ0_charAt_5068e.1 qJ0_charAt_5068e.1 ∈ mm_tbl := mm_in 1105 (by decide +kernel) rfl
def kJ0_indexOf_0f7a4 : List (Nat × mm_I) := [(0, .aload_n 0, 1, 0, 0, .tt), (1, .iload_n 1, 2, 0, 0, .tt), (2, .iconst 0, 3, 0, 0, .tt), (3, .invokevirtual 633, 6, 0, 2, (.methodLink RJ0 633 yJ0_indexOf_7cf53)), (6, .ireturn, 7, 0, 0, .tt)]
def qJ0_indexOf_0f7a4 : mm_M := (yJ0_indexOf_0f7a4, cJ0_indexOf_0f7a4, 2, (some .int), [], kJ0_indexOf_0f7a4)
set_option maxRecDepth 100000 in
theorem gJ0_indexOf_0f7a4 : mm_good qJ0_indexOf_0f7a4 := mm_good_of [0, 0, 0, 1011, 0] rfl (by decide +kernel)
set_option maxRecDepth 100000 in
theorem aJ0_indexOf_0f7a4 : mm_cal qJ0_indexOf_0f7a4 1 := ⟨rfl, mm_in 1010 (by decide +kernel) rfl, mm_in 129 (by decide +kernel) rfl, by decide +kernel, by decide +kernel, by decide +kernel⟩
set_option maxRecDepth 100000 in
theorem iJ0_indexOf_0f7a4 : Cond.instanceMethod qJ0_indexOf_0f7a4.1 ∈ mm_tbl := mm_in 1008 (by decide +kernel) rfl
set_option maxRecDepth 100000 in
theorem sJ0_indexOf_0f7a4 : Cond.selects qJ0_indexOf_0f7a4.1.cls qJ0_indexOf_0f7a4.1 qJ0_indexOf_0f7a4.1 ∈ mm_tbl := mm_in 1009 (by decide +kernel) rfl
def kJ0_indexOf_7cf53 : List (Nat × mm_I) := [(0, .aload_n 0, 1, 0, 0, .tt), (1, .invokevirtual 492, 4, 0, 0, (.methodLink RJ0 492 yJ0_isLatin1_aae02)), (4, .ifCond .eq 19, 7, 23, 0, .tt), (7, .aload_n 0, 8, 0, 0, .tt), (8, .getfield 9, 11, 0, 0, (.fieldLink RJ0 9 "java/lang/String" "value" "[B")), (11, .iload_n 1, 12, 0, 0, .tt), (12, .iload_n 2, 13, 0, 0, .tt), (13, .aload_n 0, 14, 0, 0, .tt), (14, .invokevirtual 505, 17, 0, 0, (.methodLink RJ0 505 yJ0_length_8abf5)), (17, .invokestatic 637, 20, 0, 4, (.methodLink RJ0 637 yJ1_indexOf_4cfef)), (20, .goto 16, 23, 36, 0, .tt), (23, .aload_n 0, 24, 0, 0, .tt), (24, .getfield 9, 27, 0, 0, (.fieldLink RJ0 9 "java/lang/String" "value" "[B")), (27, .iload_n 1, 28, 0, 0, .tt), (28, .iload_n 2, 29, 0, 0, .tt), (29, .aload_n 0, 30, 0, 0, .tt), (30, .invokevirtual 505, 33, 0, 0, (.methodLink RJ0 505 yJ0_length_8abf5)), (33, .invokestatic 640, 36, 0, 4, (.methodLink RJ0 640 yJ2_indexOf_4cfef)), (36, .ireturn, 37, 0, 0, .tt)]
def qJ0_indexOf_7cf53 : mm_M := (yJ0_indexOf_7cf53, cJ0_indexOf_7cf53, 3, (some .int), [], kJ0_indexOf_7cf53)
set_option maxRecDepth 100000 in
theorem gJ0_indexOf_7cf53 : mm_good qJ0_indexOf_7cf53 := mm_good_of [0, 1015, 0, 0, 2185, 0, 0, 0, 1021, 1029, 0, 0, 2185, 0, 0, 0, 1021, 1040, 0] rfl (by decide +kernel)
set_option maxRecDepth 100000 in
theorem aJ0_indexOf_7cf53 : mm_cal qJ0_indexOf_7cf53 2 := ⟨rfl, mm_in 1014 (by decide +kernel) rfl, mm_in 129 (by decide +kernel) rfl, by decide +kernel, by decide +kernel, by decide +kernel⟩
set_option maxRecDepth 100000 in
theorem iJ0_indexOf_7cf53 : Cond.instanceMethod qJ0_indexOf_7cf53.1 ∈ mm_tbl := mm_in 1012 (by decide +kernel) rfl
set_option maxRecDepth 100000 in
theorem sJ0_indexOf_7cf53 : Cond.selects qJ0_indexOf_7cf53.1.cls qJ0_indexOf_7cf53.1 qJ0_indexOf_7cf53.1 ∈ mm_tbl := mm_in 1013 (by decide +kernel) rfl
def kJ0_coder_7d493 : List (Nat × mm_I) := [(0, .getstatic 38, 3, 0, 0, (.fieldLink RJ0 38 "java/lang/String" "COMPACT_STRINGS" "Z")), (3, .ifCond .eq 10, 6, 13, 0, .tt), (6, .aload_n 0, 7, 0, 0, .tt), (7, .getfield 15, 10, 0, 0, (.fieldLink RJ0 15 "java/lang/String" "coder" "B")), (10, .goto 4, 13, 14, 0, .tt), (13, .iconst 1, 14, 0, 0, .tt), (14, .ireturn, 15, 0, 0, .tt)]
def qJ0_coder_7d493 : mm_M := (yJ0_coder_7d493, cJ0_coder_7d493, 1, (some .byte), [], kJ0_coder_7d493)
set_option maxRecDepth 100000 in
theorem gJ0_coder_7d493 : mm_good qJ0_coder_7d493 := mm_good_of [1019, 0, 0, 2184, 0, 0, 0] rfl (by decide +kernel)
set_option maxRecDepth 100000 in
theorem aJ0_coder_7d493 : mm_cal qJ0_coder_7d493 0 := ⟨rfl, mm_in 1028 (by decide +kernel) rfl, mm_in 129 (by decide +kernel) rfl, by decide +kernel, by decide +kernel, by decide +kernel⟩
set_option maxRecDepth 100000 in
theorem iJ0_coder_7d493 : Cond.instanceMethod qJ0_coder_7d493.1 ∈ mm_tbl := mm_in 1026 (by decide +kernel) rfl
set_option maxRecDepth 100000 in
theorem sJ0_coder_7d493 : Cond.selects qJ0_coder_7d493.1.cls qJ0_coder_7d493.1 qJ0_coder_7d493.1 ∈ mm_tbl := mm_in 1027 (by decide +kernel) rfl
def kJ0_isLatin1_aae02 : List (Nat × mm_I) := [(0, .getstatic 38, 3, 0, 0, (.fieldLink RJ0 38 "java/lang/String" "COMPACT_STRINGS" "Z")), (3, .ifCond .eq 14, 6, 17, 0, .tt), (6, .aload_n 0, 7, 0, 0, .tt), (7, .getfield 15, 10, 0, 0, (.fieldLink RJ0 15 "java/lang/String" "coder" "B")), (10, .ifCond .ne 7, 13, 17, 0, .tt), (13, .iconst 1, 14, 0, 0, .tt), (14, .goto 4, 17, 18, 0, .tt), (17, .iconst 0, 18, 0, 0, .tt), (18, .ireturn, 19, 0, 0, .tt)]
def qJ0_isLatin1_aae02 : mm_M := (yJ0_isLatin1_aae02, cJ0_isLatin1_aae02, 1, (some .boolean), [], kJ0_isLatin1_aae02)
set_option maxRecDepth 100000 in
theorem gJ0_isLatin1_aae02 : mm_good qJ0_isLatin1_aae02 := mm_good_of [1019, 0, 0, 2184, 0, 0, 0, 0, 0] rfl (by decide +kernel)
set_option maxRecDepth 100000 in
theorem aJ0_isLatin1_aae02 : mm_cal qJ0_isLatin1_aae02 0 := ⟨rfl, mm_in 1018 (by decide +kernel) rfl, mm_in 129 (by decide +kernel) rfl, by decide +kernel, by decide +kernel, by decide +kernel⟩
set_option maxRecDepth 100000 in
theorem iJ0_isLatin1_aae02 : Cond.instanceMethod qJ0_isLatin1_aae02.1 ∈ mm_tbl := mm_in 1016 (by decide +kernel) rfl
set_option maxRecDepth 100000 in
theorem sJ0_isLatin1_aae02 : Cond.selects qJ0_isLatin1_aae02.1.cls qJ0_isLatin1_aae02.1 qJ0_isLatin1_aae02.1 ∈ mm_tbl := mm_in 1017 (by decide +kernel) rfl
def kJ0_checkIndex_df160 : List (Nat × mm_I) := [(0, .iload_n 0, 1, 0, 0, .tt), (1, .iload_n 1, 2, 0, 0, .tt), (2, .getstatic 1053, 5, 0, 0, (.fieldLink RJ0 1053 "jdk/internal/util/Preconditions" "SIOOBE_FORMATTER" "Ljava/util/function/BiFunction;")), (5, .invokestatic 1059, 8, 0, 3, (.methodLink RJ0 1059 yJ3_checkIndex_8e157)), (8, .pop, 9, 0, 0, .tt), (9, .return_, 10, 0, 0, .tt)]
def qJ0_checkIndex_df160 : mm_M := (yJ0_checkIndex_df160, cJ0_checkIndex_df160, 2, none, [], kJ0_checkIndex_df160)
set_option maxRecDepth 100000 in
theorem gJ0_checkIndex_df160 : mm_good qJ0_checkIndex_df160 := mm_good_of [0, 0, 1058, 1113, 0, 0] rfl (by decide +kernel)
set_option maxRecDepth 100000 in
theorem aJ0_checkIndex_df160 : mm_cal qJ0_checkIndex_df160 2 := ⟨rfl, mm_in 1112 (by decide +kernel) rfl, mm_in 129 (by decide +kernel) rfl, by decide +kernel, by decide +kernel, by decide +kernel⟩
set_option maxRecDepth 100000 in
theorem tJ0_checkIndex_df160 : Cond.static qJ0_checkIndex_df160.1 ∈ mm_tbl := mm_in 1111 (by decide +kernel) rfl
def kJ1_charAt_3b067 : List (Nat × mm_I) := [(0, .iload_n 1, 1, 0, 0, .tt), (1, .aload_n 0, 2, 0, 0, .tt), (2, .arraylength, 3, 0, 0, .tt), (3, .invokestatic 9, 6, 0, 2, (.methodLink RJ1 9 yJ0_checkIndex_df160)), (6, .aload_n 0, 7, 0, 0, .tt), (7, .iload_n 1, 8, 0, 0, .tt), (8, .baload, 9, 0, 0, .tt), (9, .sipush 255, 12, 0, 0, .tt), (12, .iand, 13, 0, 0, .tt), (13, .i2c, 14, 0, 0, .tt), (14, .ireturn, 15, 0, 0, .tt)]
def qJ1_charAt_3b067 : mm_M := (yJ1_charAt_3b067, cJ1_charAt_3b067, 2, (some .char), [], kJ1_charAt_3b067)
set_option maxRecDepth 100000 in
theorem gJ1_charAt_3b067 : mm_good qJ1_charAt_3b067 := mm_good_of [0, 0, 0, 1110, 0, 0, 0, 0, 0, 0, 0] rfl (by decide +kernel)
set_option maxRecDepth 100000 in
theorem aJ1_charAt_3b067 : mm_cal qJ1_charAt_3b067 2 := ⟨rfl, mm_in 1109 (by decide +kernel) rfl, mm_in 130 (by decide +kernel) rfl, by decide +kernel, by decide +kernel, by decide +kernel⟩
set_option maxRecDepth 100000 in
theorem tJ1_charAt_3b067 : Cond.static qJ1_charAt_3b067.1 ∈ mm_tbl := mm_in 1108 (by decide +kernel) rfl
def kJ1_canEncode_9a6ad : List (Nat × mm_I) := [(0, .iload_n 0, 1, 0, 0, .tt), (1, .ifCond .lt 14, 4, 15, 0, .tt), (4, .iload_n 0, 5, 0, 0, .tt), (5, .sipush 255, 8, 0, 0, .tt), (8, .if_icmp .gt 7, 11, 15, 0, .tt), (11, .iconst 1, 12, 0, 0, .tt), (12, .goto 4, 15, 16, 0, .tt), (15, .iconst 0, 16, 0, 0, .tt), (16, .ireturn, 17, 0, 0, .tt)]
def qJ1_canEncode_9a6ad : mm_M := (yJ1_canEncode_9a6ad, cJ1_canEncode_9a6ad, 1, (some .boolean), [], kJ1_canEncode_9a6ad)
set_option maxRecDepth 100000 in
theorem gJ1_canEncode_9a6ad : mm_good qJ1_canEncode_9a6ad := mm_good_of [0, 0, 0, 0, 0, 0, 0, 0, 0] rfl (by decide +kernel)
set_option maxRecDepth 100000 in
theorem aJ1_canEncode_9a6ad : mm_cal qJ1_canEncode_9a6ad 1 := ⟨rfl, mm_in 1034 (by decide +kernel) rfl, mm_in 130 (by decide +kernel) rfl, by decide +kernel, by decide +kernel, by decide +kernel⟩
set_option maxRecDepth 100000 in
theorem tJ1_canEncode_9a6ad : Cond.static qJ1_canEncode_9a6ad.1 ∈ mm_tbl := mm_in 1033 (by decide +kernel) rfl
def kJ1_indexOf_4cfef : List (Nat × mm_I) := [(0, .iload_n 1, 1, 0, 0, .tt), (1, .invokestatic 88, 4, 0, 1, (.methodLink RJ1 88 yJ1_canEncode_9a6ad)), (4, .ifCond .ne 5, 7, 9, 0, .tt), (7, .iconst (-1), 8, 0, 0, .tt), (8, .ireturn, 9, 0, 0, .tt), (9, .iload_n 2, 10, 0, 0, .tt), (10, .iconst 0, 11, 0, 0, .tt), (11, .invokestatic 92, 14, 0, 2, (.methodLink RJ1 92 yJ9_max_7cf53)), (14, .istore_n 2, 15, 0, 0, .tt), (15, .iload_n 3, 16, 0, 0, .tt), (16, .aload_n 0, 17, 0, 0, .tt), (17, .arraylength, 18, 0, 0, .tt), (18, .invokestatic 38, 21, 0, 2, (.methodLink RJ1 38 yJ9_min_7cf53)), (21, .istore_n 3, 22, 0, 0, .tt), (22, .iload_n 2, 23, 0, 0, .tt), (23, .iload_n 3, 24, 0, 0, .tt), (24, .if_icmp .lt 5, 27, 29, 0, .tt), (27, .iconst (-1), 28, 0, 0, .tt), (28, .ireturn, 29, 0, 0, .tt), (29, .aload_n 0, 30, 0, 0, .tt), (30, .iload_n 1, 31, 0, 0, .tt), (31, .iload_n 2, 32, 0, 0, .tt), (32, .iload_n 3, 33, 0, 0, .tt), (33, .invokestatic 95, 36, 0, 4, (.methodLink RJ1 95 yJ1_indexOfChar_4cfef)), (36, .ireturn, 37, 0, 0, .tt)]
def qJ1_indexOf_4cfef : mm_M := (yJ1_indexOf_4cfef, cJ1_indexOf_4cfef, 4, (some .int), [], kJ1_indexOf_4cfef)
set_option maxRecDepth 100000 in
theorem gJ1_indexOf_4cfef : mm_good qJ1_indexOf_4cfef := mm_good_of [0, 1032, 0, 0, 0, 0, 0, 1035, 0, 0, 0, 0, 1036, 0, 0, 0, 0, 0, 0, 0, 0, 0, 0, 1037, 0] rfl (by decide +kernel)
set_option maxRecDepth 100000 in
theorem aJ1_indexOf_4cfef : mm_cal qJ1_indexOf_4cfef 4 := ⟨rfl, mm_in 1031 (by decide +kernel) rfl, mm_in 130 (by decide +kernel) rfl, by decide +kernel, by decide +kernel, by decide +kernel⟩
set_option maxRecDepth 100000 in
theorem tJ1_indexOf_4cfef : Cond.static qJ1_indexOf_4cfef.1 ∈ mm_tbl := mm_in 1030 (by decide +kernel) rfl
def kJ1_indexOfChar_4cfef : List (Nat × mm_I) := [(0, .iload_n 1, 1, 0, 0, .tt), (1, .i2b, 2, 0, 0, .tt), (2, .istore 4, 4, 0, 0, .tt), (4, .iload_n 2, 5, 0, 0, .tt), (5, .istore 5, 7, 0, 0, .tt), (7, .iload 5, 9, 0, 0, .tt), (9, .iload_n 3, 10, 0, 0, .tt), (10, .if_icmp .ge 21, 13, 31, 0, .tt), (13, .aload_n 0, 14, 0, 0, .tt), (14, .iload 5, 16, 0, 0, .tt), (16, .baload, 17, 0, 0, .tt), (17, .iload 4, 19, 0, 0, .tt), (19, .if_icmp .ne 6, 22, 25, 0, .tt), (22, .iload 5, 24, 0, 0, .tt), (24, .ireturn, 25, 0, 0, .tt), (25, .iinc 5 1, 28, 0, 0, .tt), (28, .goto (-21), 31, 7, 0, .tt), (31, .iconst (-1), 32, 0, 0, .tt), (32, .ireturn, 33, 0, 0, .tt)]
def qJ1_indexOfChar_4cfef : mm_M := (yJ1_indexOfChar_4cfef, cJ1_indexOfChar_4cfef, 6, (some .int), [], kJ1_indexOfChar_4cfef)
set_option maxRecDepth 100000 in
theorem gJ1_indexOfChar_4cfef : mm_good qJ1_indexOfChar_4cfef := mm_good_of [0, 0, 0, 0, 0, 0, 0, 0, 0, 0, 0, 0, 0, 0, 0, 0, 0, 0, 0] rfl (by decide +kernel)
set_option maxRecDepth 100000 in
theorem aJ1_indexOfChar_4cfef : mm_cal qJ1_indexOfChar_4cfef 4 := ⟨rfl, mm_in 1039 (by decide +kernel) rfl, mm_in 130 (by decide +kernel) rfl, by decide +kernel, by decide +kernel, by decide +kernel⟩
set_option maxRecDepth 100000 in
theorem tJ1_indexOfChar_4cfef : Cond.static qJ1_indexOfChar_4cfef.1 ∈ mm_tbl := mm_in 1038 (by decide +kernel) rfl
def kJ3_checkIndex_8e157 : List (Nat × mm_I) := [(0, .iload_n 0, 1, 0, 0, .tt), (1, .ifCond .lt 8, 4, 9, 0, .tt), (4, .iload_n 0, 5, 0, 0, .tt), (5, .iload_n 1, 6, 0, 0, .tt), (6, .if_icmp .lt 10, 9, 16, 0, .tt), (9, .aload_n 2, 10, 0, 0, .tt), (10, .iload_n 0, 11, 0, 0, .tt), (11, .iload_n 1, 12, 0, 0, .tt), (12, .invokestatic 95, 15, 0, 0, .tt), (15, .athrow, 16, 0, 0, .tt), (16, .iload_n 0, 17, 0, 0, .tt), (17, .ireturn, 18, 0, 0, .tt)]
def qJ3_checkIndex_8e157 : mm_M := (yJ3_checkIndex_8e157, cJ3_checkIndex_8e157, 3, (some .int), [], kJ3_checkIndex_8e157)
set_option maxRecDepth 100000 in
theorem gJ3_checkIndex_8e157 : mm_good qJ3_checkIndex_8e157 := mm_good_of [0, 0, 0, 0, 0, 0, 0, 0, 0, 0, 0, 0] rfl (by decide +kernel)
set_option maxRecDepth 100000 in
theorem aJ3_checkIndex_8e157 : mm_cal qJ3_checkIndex_8e157 3 := ⟨rfl, mm_in 1115 (by decide +kernel) rfl, mm_in 132 (by decide +kernel) rfl, by decide +kernel, by decide +kernel, by decide +kernel⟩
set_option maxRecDepth 100000 in
theorem tJ3_checkIndex_8e157 : Cond.static qJ3_checkIndex_8e157.1 ∈ mm_tbl := mm_in 1114 (by decide +kernel) rfl
