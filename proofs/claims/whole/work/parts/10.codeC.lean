def kL_plan : List (Nat × mm_I) := [(0, .aload_n 2, 1, 0, 0, .tt), (1, .iconst 0, 2, 0, 0, .tt), (2, .aload_n 0, 3, 0, 0, .tt), (3, .iload_n 1, 4, 0, 0, .tt), (4, .invokevirtual 7, 7, 0, 1, (.methodLink RL 7 yX11_plan)), (7, .i2l, 8, 0, 0, .tt), (8, .lastore, 9, 0, 0, .tt), (9, .goto 6, 12, 15, 0, .tt), (12, .astore_n 3, 13, 0, 0, .tt), (13, .iconst 1, 14, 0, 0, .tt), (14, .ireturn, 15, 0, 0, .tt), (15, .iconst 0, 16, 0, 0, .tt), (16, .ireturn, 17, 0, 0, .tt)]
def qL_plan : mm_M := (yL_plan, cL_plan, 4, (some .int), [(0, 9, 12, 13)], kL_plan)
set_option maxRecDepth 100000 in
theorem gL_plan : mm_good qL_plan := mm_good_of [0, 0, 0, 0, 905, 0, 0, 0, 0, 0, 0, 0, 0] rfl (by decide +kernel)
set_option maxRecDepth 100000 in
theorem tL_plan : Cond.static qL_plan.1 ∈ mm_tbl := mm_in 902 (by decide +kernel) rfl
def kL_count : List (Nat × mm_I) := [(0, .aload_n 2, 1, 0, 0, .tt), (1, .iconst 0, 2, 0, 0, .tt), (2, .aload_n 0, 3, 0, 0, .tt), (3, .iload_n 1, 4, 0, 0, .tt), (4, .invokevirtual 15, 7, 0, 1, (.methodLink RL 15 yX11_count)), (7, .i2l, 8, 0, 0, .tt), (8, .lastore, 9, 0, 0, .tt), (9, .goto 6, 12, 15, 0, .tt), (12, .astore_n 3, 13, 0, 0, .tt), (13, .iconst 1, 14, 0, 0, .tt), (14, .ireturn, 15, 0, 0, .tt), (15, .iconst 0, 16, 0, 0, .tt), (16, .ireturn, 17, 0, 0, .tt)]
def qL_count : mm_M := (yL_count, cL_count, 4, (some .int), [(0, 9, 12, 18)], kL_count)
set_option maxRecDepth 100000 in
theorem gL_count : mm_good qL_count := mm_good_of [0, 0, 0, 0, 1245, 0, 0, 0, 0, 0, 0, 0, 0] rfl (by decide +kernel)
set_option maxRecDepth 100000 in
theorem tL_count : Cond.static qL_count.1 ∈ mm_tbl := mm_in 1242 (by decide +kernel) rfl
def kL_shot : List (Nat × mm_I) := [(0, .aload_n 3, 1, 0, 0, .tt), (1, .iconst 0, 2, 0, 0, .tt), (2, .aload_n 0, 3, 0, 0, .tt), (3, .iload_n 1, 4, 0, 0, .tt), (4, .iload_n 2, 5, 0, 0, .tt), (5, .invokevirtual 20, 8, 0, 2, (.methodLink RL 20 yX11_shot)), (8, .i2l, 9, 0, 0, .tt), (9, .lastore, 10, 0, 0, .tt), (10, .goto 7, 13, 17, 0, .tt), (13, .astore 4, 15, 0, 0, .tt), (15, .iconst 1, 16, 0, 0, .tt), (16, .ireturn, 17, 0, 0, .tt), (17, .iconst 0, 18, 0, 0, .tt), (18, .ireturn, 19, 0, 0, .tt)]
def qL_shot : mm_M := (yL_shot, cL_shot, 5, (some .int), [(0, 10, 13, 18)], kL_shot)
set_option maxRecDepth 100000 in
theorem gL_shot : mm_good qL_shot := mm_good_of [0, 0, 0, 0, 0, 1269, 0, 0, 0, 0, 0, 0, 0, 0] rfl (by decide +kernel)
set_option maxRecDepth 100000 in
theorem tL_shot : Cond.static qL_shot.1 ∈ mm_tbl := mm_in 1267 (by decide +kernel) rfl
def kL_sky : List (Nat × mm_I) := [(0, .aload_n 3, 1, 0, 0, .tt), (1, .iconst 0, 2, 0, 0, .tt), (2, .aload_n 0, 3, 0, 0, .tt), (3, .iload_n 1, 4, 0, 0, .tt), (4, .iload_n 2, 5, 0, 0, .tt), (5, .invokevirtual 24, 8, 0, 2, (.methodLink RL 24 yX11_sky)), (8, .i2l, 9, 0, 0, .tt), (9, .lastore, 10, 0, 0, .tt), (10, .goto 7, 13, 17, 0, .tt), (13, .astore 4, 15, 0, 0, .tt), (15, .iconst 1, 16, 0, 0, .tt), (16, .ireturn, 17, 0, 0, .tt), (17, .iconst 0, 18, 0, 0, .tt), (18, .ireturn, 19, 0, 0, .tt)]
def qL_sky : mm_M := (yL_sky, cL_sky, 5, (some .int), [(0, 10, 13, 18)], kL_sky)
set_option maxRecDepth 100000 in
theorem gL_sky : mm_good qL_sky := mm_good_of [0, 0, 0, 0, 0, 1285, 0, 0, 0, 0, 0, 0, 0, 0] rfl (by decide +kernel)
set_option maxRecDepth 100000 in
theorem tL_sky : Cond.static qL_sky.1 ∈ mm_tbl := mm_in 1283 (by decide +kernel) rfl
def kL_why : List (Nat × mm_I) := [(0, .aload_n 3, 1, 0, 0, .tt), (1, .iconst 0, 2, 0, 0, .tt), (2, .aload_n 0, 3, 0, 0, .tt), (3, .iload_n 1, 4, 0, 0, .tt), (4, .iload_n 2, 5, 0, 0, .tt), (5, .invokevirtual 27, 8, 0, 2, (.methodLink RL 27 yX11_why)), (8, .i2l, 9, 0, 0, .tt), (9, .lastore, 10, 0, 0, .tt), (10, .goto 7, 13, 17, 0, .tt), (13, .astore 4, 15, 0, 0, .tt), (15, .iconst 1, 16, 0, 0, .tt), (16, .ireturn, 17, 0, 0, .tt), (17, .iconst 0, 18, 0, 0, .tt), (18, .ireturn, 19, 0, 0, .tt)]
def qL_why : mm_M := (yL_why, cL_why, 5, (some .int), [(0, 10, 13, 18)], kL_why)
set_option maxRecDepth 100000 in
theorem gL_why : mm_good qL_why := mm_good_of [0, 0, 0, 0, 0, 1306, 0, 0, 0, 0, 0, 0, 0, 0] rfl (by decide +kernel)
set_option maxRecDepth 100000 in
theorem tL_why : Cond.static qL_why.1 ∈ mm_tbl := mm_in 1304 (by decide +kernel) rfl
def kL_ready : List (Nat × mm_I) := [(0, .aload_n 2, 1, 0, 0, .tt), (1, .iconst 0, 2, 0, 0, .tt), (2, .aload_n 0, 3, 0, 0, .tt), (3, .iload_n 1, 4, 0, 0, .tt), (4, .invokevirtual 30, 7, 0, 1, (.methodLink RL 30 yX11_ready)), (7, .i2l, 8, 0, 0, .tt), (8, .lastore, 9, 0, 0, .tt), (9, .goto 6, 12, 15, 0, .tt), (12, .astore_n 3, 13, 0, 0, .tt), (13, .iconst 1, 14, 0, 0, .tt), (14, .ireturn, 15, 0, 0, .tt), (15, .iconst 0, 16, 0, 0, .tt), (16, .ireturn, 17, 0, 0, .tt)]
def qL_ready : mm_M := (yL_ready, cL_ready, 4, (some .int), [(0, 9, 12, 18)], kL_ready)
set_option maxRecDepth 100000 in
theorem gL_ready : mm_good qL_ready := mm_good_of [0, 0, 0, 0, 1319, 0, 0, 0, 0, 0, 0, 0, 0] rfl (by decide +kernel)
set_option maxRecDepth 100000 in
theorem tL_ready : Cond.static qL_ready.1 ∈ mm_tbl := mm_in 1317 (by decide +kernel) rfl
def kL_edge : List (Nat × mm_I) := [(0, .aload_n 2, 1, 0, 0, .tt), (1, .iconst 0, 2, 0, 0, .tt), (2, .aload_n 0, 3, 0, 0, .tt), (3, .iload_n 1, 4, 0, 0, .tt), (4, .invokevirtual 33, 7, 0, 1, (.methodLink RL 33 yX11_edge)), (7, .i2l, 8, 0, 0, .tt), (8, .lastore, 9, 0, 0, .tt), (9, .goto 6, 12, 15, 0, .tt), (12, .astore_n 3, 13, 0, 0, .tt), (13, .iconst 1, 14, 0, 0, .tt), (14, .ireturn, 15, 0, 0, .tt), (15, .iconst 0, 16, 0, 0, .tt), (16, .ireturn, 17, 0, 0, .tt)]
def qL_edge : mm_M := (yL_edge, cL_edge, 4, (some .int), [(0, 9, 12, 18)], kL_edge)
set_option maxRecDepth 100000 in
theorem gL_edge : mm_good qL_edge := mm_good_of [0, 0, 0, 0, 1326, 0, 0, 0, 0, 0, 0, 0, 0] rfl (by decide +kernel)
set_option maxRecDepth 100000 in
theorem tL_edge : Cond.static qL_edge.1 ∈ mm_tbl := mm_in 1324 (by decide +kernel) rfl
def kL_take : List (Nat × mm_I) := [(0, .aload_n 2, 1, 0, 0, .tt), (1, .iconst 0, 2, 0, 0, .tt), (2, .aload_n 0, 3, 0, 0, .tt), (3, .iload_n 1, 4, 0, 0, .tt), (4, .invokevirtual 36, 7, 0, 1, (.methodLink RL 36 yX11_take)), (7, .i2l, 8, 0, 0, .tt), (8, .lastore, 9, 0, 0, .tt), (9, .goto 6, 12, 15, 0, .tt), (12, .astore_n 3, 13, 0, 0, .tt), (13, .iconst 1, 14, 0, 0, .tt), (14, .ireturn, 15, 0, 0, .tt), (15, .iconst 0, 16, 0, 0, .tt), (16, .ireturn, 17, 0, 0, .tt)]
def qL_take : mm_M := (yL_take, cL_take, 4, (some .int), [(0, 9, 12, 18)], kL_take)
set_option maxRecDepth 100000 in
theorem gL_take : mm_good qL_take := mm_good_of [0, 0, 0, 0, 1333, 0, 0, 0, 0, 0, 0, 0, 0] rfl (by decide +kernel)
set_option maxRecDepth 100000 in
theorem tL_take : Cond.static qL_take.1 ∈ mm_tbl := mm_in 1331 (by decide +kernel) rfl
def kL_sets : List (Nat × mm_I) := [(0, .aload_n 3, 1, 0, 0, .tt), (1, .iconst 0, 2, 0, 0, .tt), (2, .aload_n 0, 3, 0, 0, .tt), (3, .iload_n 1, 4, 0, 0, .tt), (4, .iload_n 2, 5, 0, 0, .tt), (5, .invokevirtual 39, 8, 0, 2, (.methodLink RL 39 yX11_sets)), (8, .ifCond .eq 7, 11, 15, 0, .tt), (11, .lconst 1, 12, 0, 0, .tt), (12, .goto 4, 15, 16, 0, .tt), (15, .lconst 0, 16, 0, 0, .tt), (16, .lastore, 17, 0, 0, .tt), (17, .goto 7, 20, 24, 0, .tt), (20, .astore 4, 22, 0, 0, .tt), (22, .iconst 1, 23, 0, 0, .tt), (23, .ireturn, 24, 0, 0, .tt), (24, .iconst 0, 25, 0, 0, .tt), (25, .ireturn, 26, 0, 0, .tt)]
def qL_sets : mm_M := (yL_sets, cL_sets, 5, (some .int), [(0, 17, 20, 18)], kL_sets)
set_option maxRecDepth 100000 in
theorem gL_sets : mm_good qL_sets := mm_good_of [0, 0, 0, 0, 0, 1341, 0, 0, 0, 0, 0, 0, 0, 0, 0, 0, 0] rfl (by decide +kernel)
set_option maxRecDepth 100000 in
theorem tL_sets : Cond.static qL_sets.1 ∈ mm_tbl := mm_in 1339 (by decide +kernel) rfl
def kL_day : List (Nat × mm_I) := [(0, .aload_n 3, 1, 0, 0, .tt), (1, .iconst 0, 2, 0, 0, .tt), (2, .aload_n 0, 3, 0, 0, .tt), (3, .iload_n 1, 4, 0, 0, .tt), (4, .iload_n 2, 5, 0, 0, .tt), (5, .invokevirtual 43, 8, 0, 2, (.methodLink RL 43 yX11_day)), (8, .i2l, 9, 0, 0, .tt), (9, .lastore, 10, 0, 0, .tt), (10, .goto 7, 13, 17, 0, .tt), (13, .astore 4, 15, 0, 0, .tt), (15, .iconst 1, 16, 0, 0, .tt), (16, .ireturn, 17, 0, 0, .tt), (17, .iconst 0, 18, 0, 0, .tt), (18, .ireturn, 19, 0, 0, .tt)]
def qL_day : mm_M := (yL_day, cL_day, 5, (some .int), [(0, 10, 13, 18)], kL_day)
set_option maxRecDepth 100000 in
theorem gL_day : mm_good qL_day := mm_good_of [0, 0, 0, 0, 0, 1352, 0, 0, 0, 0, 0, 0, 0, 0] rfl (by decide +kernel)
set_option maxRecDepth 100000 in
theorem tL_day : Cond.static qL_day.1 ∈ mm_tbl := mm_in 1350 (by decide +kernel) rfl
def kL_most : List (Nat × mm_I) := [(0, .aload_n 2, 1, 0, 0, .tt), (1, .iconst 0, 2, 0, 0, .tt), (2, .aload_n 0, 3, 0, 0, .tt), (3, .iload_n 1, 4, 0, 0, .tt), (4, .invokevirtual 46, 7, 0, 1, (.methodLink RL 46 yX11_most)), (7, .i2l, 8, 0, 0, .tt), (8, .lastore, 9, 0, 0, .tt), (9, .goto 6, 12, 15, 0, .tt), (12, .astore_n 3, 13, 0, 0, .tt), (13, .iconst 1, 14, 0, 0, .tt), (14, .ireturn, 15, 0, 0, .tt), (15, .iconst 0, 16, 0, 0, .tt), (16, .ireturn, 17, 0, 0, .tt)]
def qL_most : mm_M := (yL_most, cL_most, 4, (some .int), [(0, 9, 12, 18)], kL_most)
set_option maxRecDepth 100000 in
theorem gL_most : mm_good qL_most := mm_good_of [0, 0, 0, 0, 1364, 0, 0, 0, 0, 0, 0, 0, 0] rfl (by decide +kernel)
set_option maxRecDepth 100000 in
theorem tL_most : Cond.static qL_most.1 ∈ mm_tbl := mm_in 1362 (by decide +kernel) rfl
def kL_order : List (Nat × mm_I) := [(0, .aload_n 2, 1, 0, 0, .tt), (1, .iconst 0, 2, 0, 0, .tt), (2, .aload_n 0, 3, 0, 0, .tt), (3, .iload_n 1, 4, 0, 0, .tt), (4, .invokevirtual 49, 7, 0, 1, (.methodLink RL 49 yX11_order)), (7, .i2l, 8, 0, 0, .tt), (8, .lastore, 9, 0, 0, .tt), (9, .goto 6, 12, 15, 0, .tt), (12, .astore_n 3, 13, 0, 0, .tt), (13, .iconst 1, 14, 0, 0, .tt), (14, .ireturn, 15, 0, 0, .tt), (15, .iconst 0, 16, 0, 0, .tt), (16, .ireturn, 17, 0, 0, .tt)]
def qL_order : mm_M := (yL_order, cL_order, 4, (some .int), [(0, 9, 12, 18)], kL_order)
set_option maxRecDepth 100000 in
theorem gL_order : mm_good qL_order := mm_good_of [0, 0, 0, 0, 1371, 0, 0, 0, 0, 0, 0, 0, 0] rfl (by decide +kernel)
set_option maxRecDepth 100000 in
theorem tL_order : Cond.static qL_order.1 ∈ mm_tbl := mm_in 1369 (by decide +kernel) rfl
def kL_soonest : List (Nat × mm_I) := [(0, .aload_n 2, 1, 0, 0, .tt), (1, .iconst 0, 2, 0, 0, .tt), (2, .aload_n 0, 3, 0, 0, .tt), (3, .iload_n 1, 4, 0, 0, .tt), (4, .invokevirtual 52, 7, 0, 1, (.methodLink RL 52 yX11_soonest)), (7, .i2l, 8, 0, 0, .tt), (8, .lastore, 9, 0, 0, .tt), (9, .goto 6, 12, 15, 0, .tt), (12, .astore_n 3, 13, 0, 0, .tt), (13, .iconst 1, 14, 0, 0, .tt), (14, .ireturn, 15, 0, 0, .tt), (15, .iconst 0, 16, 0, 0, .tt), (16, .ireturn, 17, 0, 0, .tt)]
def qL_soonest : mm_M := (yL_soonest, cL_soonest, 4, (some .int), [(0, 9, 12, 13)], kL_soonest)
set_option maxRecDepth 100000 in
theorem gL_soonest : mm_good qL_soonest := mm_good_of [0, 0, 0, 0, 1388, 0, 0, 0, 0, 0, 0, 0, 0] rfl (by decide +kernel)
set_option maxRecDepth 100000 in
theorem tL_soonest : Cond.static qL_soonest.1 ∈ mm_tbl := mm_in 1386 (by decide +kernel) rfl
def kL_worth : List (Nat × mm_I) := [(0, .aload_n 2, 1, 0, 0, .tt), (1, .iconst 0, 2, 0, 0, .tt), (2, .aload_n 0, 3, 0, 0, .tt), (3, .iload_n 1, 4, 0, 0, .tt), (4, .invokevirtual 55, 7, 0, 1, (.methodLink RL 55 yX11_worth)), (7, .i2l, 8, 0, 0, .tt), (8, .lastore, 9, 0, 0, .tt), (9, .goto 6, 12, 15, 0, .tt), (12, .astore_n 3, 13, 0, 0, .tt), (13, .iconst 1, 14, 0, 0, .tt), (14, .ireturn, 15, 0, 0, .tt), (15, .iconst 0, 16, 0, 0, .tt), (16, .ireturn, 17, 0, 0, .tt)]
def qL_worth : mm_M := (yL_worth, cL_worth, 4, (some .int), [(0, 9, 12, 18)], kL_worth)
set_option maxRecDepth 100000 in
theorem gL_worth : mm_good qL_worth := mm_good_of [0, 0, 0, 0, 1397, 0, 0, 0, 0, 0, 0, 0, 0] rfl (by decide +kernel)
set_option maxRecDepth 100000 in
theorem tL_worth : Cond.static qL_worth.1 ∈ mm_tbl := mm_in 1395 (by decide +kernel) rfl
def kL_chances : List (Nat × mm_I) := [(0, .aload_n 3, 1, 0, 0, .tt), (1, .iconst 0, 2, 0, 0, .tt), (2, .aload_n 0, 3, 0, 0, .tt), (3, .iload_n 1, 4, 0, 0, .tt), (4, .iload_n 2, 5, 0, 0, .tt), (5, .invokevirtual 58, 8, 0, 2, (.methodLink RL 58 yX11_chances)), (8, .i2l, 9, 0, 0, .tt), (9, .lastore, 10, 0, 0, .tt), (10, .goto 7, 13, 17, 0, .tt), (13, .astore 4, 15, 0, 0, .tt), (15, .iconst 1, 16, 0, 0, .tt), (16, .ireturn, 17, 0, 0, .tt), (17, .iconst 0, 18, 0, 0, .tt), (18, .ireturn, 19, 0, 0, .tt)]
def qL_chances : mm_M := (yL_chances, cL_chances, 5, (some .int), [(0, 10, 13, 18)], kL_chances)
set_option maxRecDepth 100000 in
theorem gL_chances : mm_good qL_chances := mm_good_of [0, 0, 0, 0, 0, 1405, 0, 0, 0, 0, 0, 0, 0, 0] rfl (by decide +kernel)
set_option maxRecDepth 100000 in
theorem tL_chances : Cond.static qL_chances.1 ∈ mm_tbl := mm_in 1403 (by decide +kernel) rfl
def kL_without : List (Nat × mm_I) := [(0, .aload_n 2, 1, 0, 0, .tt), (1, .iconst 0, 2, 0, 0, .tt), (2, .aload_n 0, 3, 0, 0, .tt), (3, .iload_n 1, 4, 0, 0, .tt), (4, .invokevirtual 61, 7, 0, 1, (.methodLink RL 61 yX11_without)), (7, .i2l, 8, 0, 0, .tt), (8, .lastore, 9, 0, 0, .tt), (9, .goto 6, 12, 15, 0, .tt), (12, .astore_n 3, 13, 0, 0, .tt), (13, .iconst 1, 14, 0, 0, .tt), (14, .ireturn, 15, 0, 0, .tt), (15, .iconst 0, 16, 0, 0, .tt), (16, .ireturn, 17, 0, 0, .tt)]
def qL_without : mm_M := (yL_without, cL_without, 4, (some .int), [(0, 9, 12, 18)], kL_without)
set_option maxRecDepth 100000 in
theorem gL_without : mm_good qL_without := mm_good_of [0, 0, 0, 0, 1413, 0, 0, 0, 0, 0, 0, 0, 0] rfl (by decide +kernel)
set_option maxRecDepth 100000 in
theorem tL_without : Cond.static qL_without.1 ∈ mm_tbl := mm_in 1411 (by decide +kernel) rfl
def kL_shorter : List (Nat × mm_I) := [(0, .aload_n 2, 1, 0, 0, .tt), (1, .iconst 0, 2, 0, 0, .tt), (2, .aload_n 0, 3, 0, 0, .tt), (3, .iload_n 1, 4, 0, 0, .tt), (4, .invokevirtual 64, 7, 0, 1, (.methodLink RL 64 yX11_shorter)), (7, .i2l, 8, 0, 0, .tt), (8, .lastore, 9, 0, 0, .tt), (9, .goto 6, 12, 15, 0, .tt), (12, .astore_n 3, 13, 0, 0, .tt), (13, .iconst 1, 14, 0, 0, .tt), (14, .ireturn, 15, 0, 0, .tt), (15, .iconst 0, 16, 0, 0, .tt), (16, .ireturn, 17, 0, 0, .tt)]
def qL_shorter : mm_M := (yL_shorter, cL_shorter, 4, (some .int), [(0, 9, 12, 13)], kL_shorter)
set_option maxRecDepth 100000 in
theorem gL_shorter : mm_good qL_shorter := mm_good_of [0, 0, 0, 0, 1420, 0, 0, 0, 0, 0, 0, 0, 0] rfl (by decide +kernel)
set_option maxRecDepth 100000 in
theorem tL_shorter : Cond.static qL_shorter.1 ∈ mm_tbl := mm_in 1418 (by decide +kernel) rfl
def kL_idle : List (Nat × mm_I) := [(0, .aload_n 3, 1, 0, 0, .tt), (1, .iconst 0, 2, 0, 0, .tt), (2, .aload_n 0, 3, 0, 0, .tt), (3, .iload_n 1, 4, 0, 0, .tt), (4, .iload_n 2, 5, 0, 0, .tt), (5, .invokevirtual 67, 8, 0, 2, (.methodLink RL 67 yX11_idle)), (8, .i2l, 9, 0, 0, .tt), (9, .lastore, 10, 0, 0, .tt), (10, .goto 7, 13, 17, 0, .tt), (13, .astore 4, 15, 0, 0, .tt), (15, .iconst 1, 16, 0, 0, .tt), (16, .ireturn, 17, 0, 0, .tt), (17, .iconst 0, 18, 0, 0, .tt), (18, .ireturn, 19, 0, 0, .tt)]
def qL_idle : mm_M := (yL_idle, cL_idle, 5, (some .int), [(0, 10, 13, 18)], kL_idle)
set_option maxRecDepth 100000 in
theorem gL_idle : mm_good qL_idle := mm_good_of [0, 0, 0, 0, 0, 1429, 0, 0, 0, 0, 0, 0, 0, 0] rfl (by decide +kernel)
set_option maxRecDepth 100000 in
theorem tL_idle : Cond.static qL_idle.1 ∈ mm_tbl := mm_in 1427 (by decide +kernel) rfl
def kL_holes : List (Nat × mm_I) := [(0, .aload_n 2, 1, 0, 0, .tt), (1, .iconst 0, 2, 0, 0, .tt), (2, .aload_n 0, 3, 0, 0, .tt), (3, .iload_n 1, 4, 0, 0, .tt), (4, .invokevirtual 70, 7, 0, 1, (.methodLink RL 70 yX11_holes)), (7, .i2l, 8, 0, 0, .tt), (8, .lastore, 9, 0, 0, .tt), (9, .goto 6, 12, 15, 0, .tt), (12, .astore_n 3, 13, 0, 0, .tt), (13, .iconst 1, 14, 0, 0, .tt), (14, .ireturn, 15, 0, 0, .tt), (15, .iconst 0, 16, 0, 0, .tt), (16, .ireturn, 17, 0, 0, .tt)]
def qL_holes : mm_M := (yL_holes, cL_holes, 4, (some .int), [(0, 9, 12, 13)], kL_holes)
set_option maxRecDepth 100000 in
theorem gL_holes : mm_good qL_holes := mm_good_of [0, 0, 0, 0, 1436, 0, 0, 0, 0, 0, 0, 0, 0] rfl (by decide +kernel)
set_option maxRecDepth 100000 in
theorem tL_holes : Cond.static qL_holes.1 ∈ mm_tbl := mm_in 1434 (by decide +kernel) rfl
def kL_hole : List (Nat × mm_I) := [(0, .aload_n 2, 1, 0, 0, .tt), (1, .iconst 0, 2, 0, 0, .tt), (2, .aload_n 0, 3, 0, 0, .tt), (3, .iload_n 1, 4, 0, 0, .tt), (4, .invokevirtual 73, 7, 0, 1, (.methodLink RL 73 yX11_hole)), (7, .i2l, 8, 0, 0, .tt), (8, .lastore, 9, 0, 0, .tt), (9, .goto 6, 12, 15, 0, .tt), (12, .astore_n 3, 13, 0, 0, .tt), (13, .iconst 1, 14, 0, 0, .tt), (14, .ireturn, 15, 0, 0, .tt), (15, .iconst 0, 16, 0, 0, .tt), (16, .ireturn, 17, 0, 0, .tt)]
def qL_hole : mm_M := (yL_hole, cL_hole, 4, (some .int), [(0, 9, 12, 18)], kL_hole)
set_option maxRecDepth 100000 in
theorem gL_hole : mm_good qL_hole := mm_good_of [0, 0, 0, 0, 1448, 0, 0, 0, 0, 0, 0, 0, 0] rfl (by decide +kernel)
set_option maxRecDepth 100000 in
theorem tL_hole : Cond.static qL_hole.1 ∈ mm_tbl := mm_in 1446 (by decide +kernel) rfl
def kL_lasts : List (Nat × mm_I) := [(0, .aload 4, 2, 0, 0, .tt), (2, .iconst 0, 3, 0, 0, .tt), (3, .aload_n 0, 4, 0, 0, .tt), (4, .iload_n 1, 5, 0, 0, .tt), (5, .iload_n 2, 6, 0, 0, .tt), (6, .iload_n 3, 7, 0, 0, .tt), (7, .invokevirtual 76, 10, 0, 3, (.methodLink RL 76 yX11_lasts)), (10, .lastore, 11, 0, 0, .tt), (11, .goto 11, 14, 22, 0, .tt), (14, .astore 5, 16, 0, 0, .tt), (16, .iconst 1, 17, 0, 0, .tt), (17, .ireturn, 18, 0, 0, .tt), (18, .astore 5, 20, 0, 0, .tt), (20, .iconst 2, 21, 0, 0, .tt), (21, .ireturn, 22, 0, 0, .tt), (22, .iconst 0, 23, 0, 0, .tt), (23, .ireturn, 24, 0, 0, .tt)]
def qL_lasts : mm_M := (yL_lasts, cL_lasts, 6, (some .int), [(0, 11, 14, 18), (0, 11, 18, 13)], kL_lasts)
set_option maxRecDepth 100000 in
theorem gL_lasts : mm_good qL_lasts := mm_good_of [0, 0, 0, 0, 0, 0, 1458, 0, 0, 0, 0, 0, 0, 0, 0, 0, 0] rfl (by decide +kernel)
set_option maxRecDepth 100000 in
theorem tL_lasts : Cond.static qL_lasts.1 ∈ mm_tbl := mm_in 1456 (by decide +kernel) rfl
def kL_trial : List (Nat × mm_I) := [(0, .aload 5, 2, 0, 0, .tt), (2, .iconst 0, 3, 0, 0, .tt), (3, .aload_n 0, 4, 0, 0, .tt), (4, .iload_n 1, 5, 0, 0, .tt), (5, .iload_n 2, 6, 0, 0, .tt), (6, .iload_n 3, 7, 0, 0, .tt), (7, .iload 4, 9, 0, 0, .tt), (9, .invokevirtual 80, 12, 0, 4, (.methodLink RL 80 yX11_trial)), (12, .lastore, 13, 0, 0, .tt), (13, .goto 7, 16, 20, 0, .tt), (16, .astore 6, 18, 0, 0, .tt), (18, .iconst 1, 19, 0, 0, .tt), (19, .ireturn, 20, 0, 0, .tt), (20, .iconst 0, 21, 0, 0, .tt), (21, .ireturn, 22, 0, 0, .tt)]
def qL_trial : mm_M := (yL_trial, cL_trial, 7, (some .int), [(0, 13, 16, 13)], kL_trial)
set_option maxRecDepth 100000 in
theorem gL_trial : mm_good qL_trial := mm_good_of [0, 0, 0, 0, 0, 0, 0, 1472, 0, 0, 0, 0, 0, 0, 0] rfl (by decide +kernel)
set_option maxRecDepth 100000 in
theorem tL_trial : Cond.static qL_trial.1 ∈ mm_tbl := mm_in 1470 (by decide +kernel) rfl
def kL_see : List (Nat × mm_I) := [(0, .aload 4, 2, 0, 0, .tt), (2, .iconst 0, 3, 0, 0, .tt), (3, .aload_n 0, 4, 0, 0, .tt), (4, .iload_n 1, 5, 0, 0, .tt), (5, .iload_n 2, 6, 0, 0, .tt), (6, .iload_n 3, 7, 0, 0, .tt), (7, .invokevirtual 84, 10, 0, 3, (.methodLink RL 84 yX11_see)), (10, .i2l, 11, 0, 0, .tt), (11, .lastore, 12, 0, 0, .tt), (12, .goto 7, 15, 19, 0, .tt), (15, .astore 5, 17, 0, 0, .tt), (17, .iconst 1, 18, 0, 0, .tt), (18, .ireturn, 19, 0, 0, .tt), (19, .iconst 0, 20, 0, 0, .tt), (20, .ireturn, 21, 0, 0, .tt)]
def qL_see : mm_M := (yL_see, cL_see, 6, (some .int), [(0, 12, 15, 18)], kL_see)
set_option maxRecDepth 100000 in
theorem gL_see : mm_good qL_see := mm_good_of [0, 0, 0, 0, 0, 0, 1480, 0, 0, 0, 0, 0, 0, 0, 0] rfl (by decide +kernel)
set_option maxRecDepth 100000 in
theorem tL_see : Cond.static qL_see.1 ∈ mm_tbl := mm_in 1478 (by decide +kernel) rfl
def kL_week : List (Nat × mm_I) := [(0, .aload 5, 2, 0, 0, .tt), (2, .iconst 0, 3, 0, 0, .tt), (3, .aload_n 0, 4, 0, 0, .tt), (4, .iload_n 1, 5, 0, 0, .tt), (5, .iload_n 2, 6, 0, 0, .tt), (6, .iload_n 3, 7, 0, 0, .tt), (7, .iload 4, 9, 0, 0, .tt), (9, .invokevirtual 88, 12, 0, 4, (.methodLink RL 88 yX11_week)), (12, .i2l, 13, 0, 0, .tt), (13, .lastore, 14, 0, 0, .tt), (14, .goto 11, 17, 25, 0, .tt), (17, .astore 6, 19, 0, 0, .tt), (19, .iconst 1, 20, 0, 0, .tt), (20, .ireturn, 21, 0, 0, .tt), (21, .astore 6, 23, 0, 0, .tt), (23, .iconst 2, 24, 0, 0, .tt), (24, .ireturn, 25, 0, 0, .tt), (25, .iconst 0, 26, 0, 0, .tt), (26, .ireturn, 27, 0, 0, .tt)]
def qL_week : mm_M := (yL_week, cL_week, 7, (some .int), [(0, 14, 17, 18), (0, 14, 21, 13)], kL_week)
set_option maxRecDepth 100000 in
theorem gL_week : mm_good qL_week := mm_good_of [0, 0, 0, 0, 0, 0, 0, 1491, 0, 0, 0, 0, 0, 0, 0, 0, 0, 0, 0] rfl (by decide +kernel)
set_option maxRecDepth 100000 in
theorem tL_week : Cond.static qL_week.1 ∈ mm_tbl := mm_in 1489 (by decide +kernel) rfl
