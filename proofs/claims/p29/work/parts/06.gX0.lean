set_option maxRecDepth 20000 in
theorem ggX0_take_X2_at : GoodIn wsX0_take wsX2_at := goodIn_ca (goodIn_r _ [15, 16, 17, 18, 19] (by decide +kernel) (by decide +kernel)) (goodIn_sub (fun _ h => List.mem_cons_of_mem _ (List.mem_append_right _ h)) (by decide +kernel))
set_option maxRecDepth 20000 in
theorem gX0_take_X2_at : GoodIn wsX0_take (wsV RX0 36 RX2 yX2_at wsX2_at) := goodIn_app (goodIn_of _ (by decide +kernel)) ggX0_take_X2_at
set_option maxRecDepth 20000 in
theorem ggX0_keepParity_X0_numberAt : GoodIn wsX0_keepParity wsX0_numberAt := goodIn_ca (goodIn_r _ [6, 7, 8, 18, 19, 20, 21, 22, 23, 24] (by decide +kernel) (by decide +kernel)) (goodIn_sub (fun _ h => List.mem_cons_of_mem _ (List.mem_append_right _ h)) (by decide +kernel))
set_option maxRecDepth 20000 in
theorem gX0_keepParity_X0_numberAt : GoodIn wsX0_keepParity (wsV RX0 50 RX0 yX0_numberAt wsX0_numberAt) := goodIn_app (goodIn_of _ (by decide +kernel)) ggX0_keepParity_X0_numberAt
set_option maxRecDepth 20000 in
theorem ggX0_keepParity_X0_alliesAt : GoodIn wsX0_keepParity wsX0_alliesAt := goodIn_ca (goodIn_r _ [12, 13, 14, 15, 5, 16, 17, 2, 3, 4, 6, 7, 8, 18, 19, 20, 21, 22, 23, 24] (by decide +kernel) (by decide +kernel)) (goodIn_sub (fun _ h => List.mem_cons_of_mem _ (List.mem_append_right _ h)) (by decide +kernel))
set_option maxRecDepth 20000 in
theorem gX0_keepParity_X0_alliesAt : GoodIn wsX0_keepParity (wsV RX0 53 RX0 yX0_alliesAt wsX0_alliesAt) := goodIn_app (goodIn_of _ (by decide +kernel)) ggX0_keepParity_X0_alliesAt
set_option maxRecDepth 20000 in
theorem ggX0_writeTo_X2_clear : GoodIn wsX0_writeTo wsX2_clear := goodIn_r _ [7, 8, 38, 39] (by decide +kernel) (by decide +kernel)
set_option maxRecDepth 20000 in
theorem gX0_writeTo_X2_clear : GoodIn wsX0_writeTo (wsV RX0 57 RX2 yX2_clear wsX2_clear) := goodIn_app (goodIn_of _ (by decide +kernel)) ggX0_writeTo_X2_clear
set_option maxRecDepth 20000 in
theorem ggX0_writeTo_X6_turnOf : GoodIn wsX0_writeTo wsX6_turnOf := goodIn_r _ [11, 12] (by decide +kernel) (by decide +kernel)
set_option maxRecDepth 20000 in
theorem gX0_writeTo_X6_turnOf_n60 : GoodIn wsX0_writeTo (wsX6_turnOf) := ggX0_writeTo_X6_turnOf
set_option maxRecDepth 20000 in
theorem ggX0_writeTo_X6_placeOf : GoodIn wsX0_writeTo wsX6_placeOf := goodIn_r _ [14, 12] (by decide +kernel) (by decide +kernel)
set_option maxRecDepth 20000 in
theorem gX0_writeTo_X6_placeOf_n63 : GoodIn wsX0_writeTo (wsX6_placeOf) := ggX0_writeTo_X6_placeOf
set_option maxRecDepth 20000 in
theorem ggX0_writeTo_X6_unitOf : GoodIn wsX0_writeTo wsX6_unitOf := goodIn_r _ [16] (by decide +kernel) (by decide +kernel)
set_option maxRecDepth 20000 in
theorem gX0_writeTo_X6_unitOf_n66 : GoodIn wsX0_writeTo (wsX6_unitOf) := ggX0_writeTo_X6_unitOf
set_option maxRecDepth 20000 in
theorem ggX0_writeTo_X2_add : GoodIn wsX0_writeTo wsX2_add := goodIn_ca (goodIn_r _ [20, 8, 21, 22, 23, 6, 24, 9, 10, 11, 12, 15, 16, 25, 26, 27, 28, 29, 30, 38, 39] (by decide +kernel) (by decide +kernel)) (goodIn_sub (fun _ h => List.mem_cons_of_mem _ (List.mem_append_right _ h)) (by decide +kernel))
set_option maxRecDepth 20000 in
theorem gX0_writeTo_X2_add : GoodIn wsX0_writeTo (wsV RX0 69 RX2 yX2_add wsX2_add) := goodIn_app (goodIn_of _ (by decide +kernel)) ggX0_writeTo_X2_add
set_option maxRecDepth 20000 in
theorem ggX0_isBroken_X0_blockCount : GoodIn wsX0_isBroken wsX0_blockCount := goodIn_r _ [6, 7, 8, 9, 10, 11, 12, 13, 14] (by decide +kernel) (by decide +kernel)
set_option maxRecDepth 20000 in
theorem gX0_isBroken_X0_blockCount : GoodIn wsX0_isBroken (wsV RX0 73 RX0 yX0_blockCount wsX0_blockCount) := goodIn_app (goodIn_of _ (by decide +kernel)) ggX0_isBroken_X0_blockCount
set_option maxRecDepth 20000 in
theorem ggX0_breakOne_X0_blockCount : GoodIn wsX0_breakOne wsX0_blockCount := goodIn_r _ [7, 8, 17, 18, 19, 20, 21, 22, 23] (by decide +kernel) (by decide +kernel)
set_option maxRecDepth 20000 in
theorem gX0_breakOne_X0_blockCount : GoodIn wsX0_breakOne (wsV RX0 73 RX0 yX0_blockCount wsX0_blockCount) := goodIn_app (goodIn_of _ (by decide +kernel)) ggX0_breakOne_X0_blockCount
set_option maxRecDepth 20000 in
theorem ggX0_breakOne_X0_blockEnd : GoodIn wsX0_breakOne wsX0_blockEnd := goodIn_r _ [12, 8, 13, 14, 15, 16, 17, 18, 19, 20, 21, 22, 23] (by decide +kernel) (by decide +kernel)
set_option maxRecDepth 20000 in
theorem gX0_breakOne_X0_blockEnd : GoodIn wsX0_breakOne (wsV RX0 77 RX0 yX0_blockEnd wsX0_blockEnd) := goodIn_app (goodIn_of _ (by decide +kernel)) ggX0_breakOne_X0_blockEnd
set_option maxRecDepth 20000 in
theorem ggX0_endTreaty_X0_isAlly : GoodIn wsX0_endTreaty wsX0_isAlly := goodIn_r _ [6, 7, 8, 9, 10, 11, 12, 13, 14] (by decide +kernel) (by decide +kernel)
set_option maxRecDepth 20000 in
theorem gX0_endTreaty_X0_isAlly : GoodIn wsX0_endTreaty (wsV RX0 80 RX0 yX0_isAlly wsX0_isAlly) := goodIn_app (goodIn_of _ (by decide +kernel)) ggX0_endTreaty_X0_isAlly
set_option maxRecDepth 20000 in
theorem ggX0_canRebuild_X0_isAlly : GoodIn wsX0_canRebuild wsX0_isAlly := goodIn_r _ [7, 1, 18, 19, 20, 21, 22, 23, 24] (by decide +kernel) (by decide +kernel)
set_option maxRecDepth 20000 in
theorem gX0_canRebuild_X0_isAlly : GoodIn wsX0_canRebuild (wsV RX0 80 RX0 yX0_isAlly wsX0_isAlly) := goodIn_app (goodIn_of _ (by decide +kernel)) ggX0_canRebuild_X0_isAlly
set_option maxRecDepth 20000 in
theorem ggX0_canRebuild_X0_isBroken : GoodIn wsX0_canRebuild wsX0_isBroken := goodIn_r _ [11, 12, 13, 14, 15, 6, 16, 17, 18, 19, 20, 21, 22, 23, 24] (by decide +kernel) (by decide +kernel)
set_option maxRecDepth 20000 in
theorem gX0_canRebuild_X0_isBroken : GoodIn wsX0_canRebuild (wsV RX0 84 RX0 yX0_isBroken wsX0_isBroken) := goodIn_app (goodIn_of _ (by decide +kernel)) ggX0_canRebuild_X0_isBroken
set_option maxRecDepth 20000 in
theorem ggX0_rebuild_X0_blockCount : GoodIn wsX0_rebuild wsX0_blockCount := goodIn_r _ [8, 9, 31, 32, 33, 34, 35, 36, 37] (by decide +kernel) (by decide +kernel)
set_option maxRecDepth 20000 in
theorem gX0_rebuild_X0_blockCount : GoodIn wsX0_rebuild (wsV RX0 73 RX0 yX0_blockCount wsX0_blockCount) := goodIn_app (goodIn_of _ (by decide +kernel)) ggX0_rebuild_X0_blockCount
set_option maxRecDepth 20000 in
theorem ggX0_rebuild_X0_blockEnd : GoodIn wsX0_rebuild wsX0_blockEnd := goodIn_r _ [13, 9, 14, 15, 16, 17, 31, 32, 33, 34, 35, 36, 37] (by decide +kernel) (by decide +kernel)
set_option maxRecDepth 20000 in
theorem gX0_rebuild_X0_blockEnd : GoodIn wsX0_rebuild (wsV RX0 77 RX0 yX0_blockEnd wsX0_blockEnd) := goodIn_app (goodIn_of _ (by decide +kernel)) ggX0_rebuild_X0_blockEnd
set_option maxRecDepth 20000 in
theorem ggX0_rebuild_X0_alliesAt : GoodIn wsX0_rebuild wsX0_alliesAt := goodIn_ca (goodIn_r _ [21, 22, 23, 24, 7, 25, 26, 27, 28, 29, 30, 9, 1, 31, 32, 33, 34, 35, 36, 37] (by decide +kernel) (by decide +kernel)) (goodIn_sub (fun _ h => List.mem_cons_of_mem _ (List.mem_append_right _ h)) (by decide +kernel))
set_option maxRecDepth 20000 in
theorem gX0_rebuild_X0_alliesAt : GoodIn wsX0_rebuild (wsV RX0 53 RX0 yX0_alliesAt wsX0_alliesAt) := goodIn_app (goodIn_of _ (by decide +kernel)) ggX0_rebuild_X0_alliesAt
set_option maxRecDepth 20000 in
theorem ggX0_isAsTaken_X0_isBroken : GoodIn wsX0_isAsTaken wsX0_isBroken := goodIn_r _ [7, 8, 9, 10, 11, 6, 12, 1, 18, 19, 20, 21, 22, 23, 24] (by decide +kernel) (by decide +kernel)
set_option maxRecDepth 20000 in
theorem gX0_isAsTaken_X0_isBroken : GoodIn wsX0_isAsTaken (wsV RX0 84 RX0 yX0_isBroken wsX0_isBroken) := goodIn_app (goodIn_of _ (by decide +kernel)) ggX0_isAsTaken_X0_isBroken
set_option maxRecDepth 20000 in
theorem ggX0_isAsTaken_X0_wasTaken : GoodIn wsX0_isAsTaken wsX0_wasTaken := goodIn_ca (goodIn_r _ [16, 1, 17, 18, 19, 20, 21, 22, 23, 24] (by decide +kernel) (by decide +kernel)) (goodIn_sub (fun _ h => List.mem_cons_of_mem _ (List.mem_append_right _ h)) (by decide +kernel))
set_option maxRecDepth 20000 in
theorem gX0_isAsTaken_X0_wasTaken : GoodIn wsX0_isAsTaken (wsV RX0 87 RX0 yX0_wasTaken wsX0_wasTaken) := goodIn_app (goodIn_of _ (by decide +kernel)) ggX0_isAsTaken_X0_wasTaken
set_option maxRecDepth 20000 in
theorem ggX0_alliesAt_X0_isAlly : GoodIn wsX0_alliesAt wsX0_isAlly := goodIn_r _ [5, 6, 13, 14, 15, 16, 17, 18, 19] (by decide +kernel) (by decide +kernel)
set_option maxRecDepth 20000 in
theorem gX0_alliesAt_X0_isAlly : GoodIn wsX0_alliesAt (wsV RX0 80 RX0 yX0_isAlly wsX0_isAlly) := goodIn_app (goodIn_of _ (by decide +kernel)) ggX0_alliesAt_X0_isAlly
set_option maxRecDepth 20000 in
theorem ggX0_alliesAt_X0_numberAt : GoodIn wsX0_alliesAt wsX0_numberAt := goodIn_ca (goodIn_r _ [10, 11, 12, 13, 14, 15, 16, 17, 18, 19] (by decide +kernel) (by decide +kernel)) (goodIn_sub (fun _ h => List.mem_cons_of_mem _ (List.mem_append_right _ h)) (by decide +kernel))
set_option maxRecDepth 20000 in
theorem gX0_alliesAt_X0_numberAt : GoodIn wsX0_alliesAt (wsV RX0 50 RX0 yX0_numberAt wsX0_numberAt) := goodIn_app (goodIn_of _ (by decide +kernel)) ggX0_alliesAt_X0_numberAt
set_option maxRecDepth 20000 in
theorem ggX1_init_X3_init : GoodIn wsX1_init wsX3_init := goodIn_r _ [16, 17, 2, 3, 18, 19, 27] (by decide +kernel) (by decide +kernel)
set_option maxRecDepth 20000 in
theorem gX1_init_X3_init_n11 : GoodIn wsX1_init (wsX3_init) := ggX1_init_X3_init
set_option maxRecDepth 20000 in
theorem ggX1_init_X5_init : GoodIn wsX1_init wsX5_init := goodIn_r _ [21, 22, 2, 3, 12, 23, 24, 25, 26, 32, 33, 34, 35, 36] (by decide +kernel) (by decide +kernel)
set_option maxRecDepth 20000 in
theorem gX1_init_X5_init_n20 : GoodIn wsX1_init (wsX5_init) := ggX1_init_X5_init
set_option maxRecDepth 20000 in
theorem ggX1_playTurn_X1_readWants : GoodIn wsX1_playTurn wsX1_readWants := goodIn_ca (goodIn_r _ [5, 6, 7, 8, 9, 10, 11, 12, 13, 14, 15, 16, 17, 18, 19, 20, 21, 22, 23, 24, 25, 26, 27, 28, 29, 30, 31, 32, 33, 34, 35, 36, 37, 38, 39, 40, 4, 41, 113, 114, 115, 116, 117, 118, 119, 120, 121, 122, 123, 124] (by decide +kernel) (by decide +kernel)) (goodIn_sub (fun _ h => List.mem_cons_of_mem _ (List.mem_append_right _ h)) (by decide +kernel))
set_option maxRecDepth 20000 in
theorem gX1_playTurn_X1_readWants : GoodIn wsX1_playTurn (wsV RX1 32 RX1 yX1_readWants wsX1_readWants) := goodIn_app (goodIn_of _ (by decide +kernel)) ggX1_playTurn_X1_readWants
set_option maxRecDepth 20000 in
theorem ggX1_playTurn_X1_meetPairs : GoodIn wsX1_playTurn wsX1_meetPairs := goodIn_ca (goodIn_r _ [45, 6, 46, 47, 48, 4, 49, 7, 38, 39, 40, 41, 9, 10, 11, 12, 13, 14, 15, 50, 51, 52, 53, 54, 55, 56, 57, 58, 59, 60, 61, 62, 63, 64, 65, 66, 67, 68, 69, 70, 71, 72, 73, 74, 75, 113, 114, 115, 116, 117, 118, 119, 120, 121] (by decide +kernel) (by decide +kernel)) (goodIn_sub (fun _ h => List.mem_cons_of_mem _ (List.mem_append_right _ h)) (by decide +kernel))
set_option maxRecDepth 20000 in
theorem gX1_playTurn_X1_meetPairs : GoodIn wsX1_playTurn (wsV RX1 36 RX1 yX1_meetPairs wsX1_meetPairs) := goodIn_app (goodIn_of _ (by decide +kernel)) ggX1_playTurn_X1_meetPairs
set_option maxRecDepth 20000 in
theorem ggX1_playTurn_X1_settleCells : GoodIn wsX1_playTurn wsX1_settleCells := goodIn_ca (goodIn_r _ [79, 80, 81, 82, 4, 83, 6, 7, 38, 39, 40, 41, 9, 10, 11, 12, 13, 14, 15, 84, 85, 86, 87, 88, 89, 90, 91, 50, 51, 52, 53, 92, 93, 94, 95, 96, 97, 98, 99, 100, 54, 55, 56, 57, 58, 63, 64, 65, 66, 67, 101, 102, 103, 104, 105, 106, 107, 108, 68, 69, 70, 71, 72, 73, 74, 75, 113, 114, 115, 116, 117, 118, 119, 120, 121] (by decide +kernel) (by decide +kernel)) (goodIn_sub (fun _ h => List.mem_cons_of_mem _ (List.mem_append_right _ h)) (by decide +kernel))
set_option maxRecDepth 20000 in
theorem gX1_playTurn_X1_settleCells : GoodIn wsX1_playTurn (wsV RX1 40 RX1 yX1_settleCells wsX1_settleCells) := goodIn_app (goodIn_of _ (by decide +kernel)) ggX1_playTurn_X1_settleCells
set_option maxRecDepth 20000 in
theorem ggX1_playTurn_X1_moveAll : GoodIn wsX1_playTurn wsX1_moveAll := goodIn_ca (goodIn_r _ [112, 6, 7, 72, 73, 74, 12, 75, 14, 15, 113, 114, 115, 116, 117, 118, 119, 120, 121] (by decide +kernel) (by decide +kernel)) (goodIn_sub (fun _ h => List.mem_cons_of_mem _ (List.mem_append_right _ h)) (by decide +kernel))
set_option maxRecDepth 20000 in
theorem gX1_playTurn_X1_moveAll : GoodIn wsX1_playTurn (wsV RX1 43 RX1 yX1_moveAll wsX1_moveAll) := goodIn_app (goodIn_of _ (by decide +kernel)) ggX1_playTurn_X1_moveAll
set_option maxRecDepth 20000 in
theorem ggX1_readWants_X5_place : GoodIn wsX1_readWants wsX5_place := goodIn_ca (goodIn_r _ [8, 9, 10, 42, 43, 44, 45, 46] (by decide +kernel) (by decide +kernel)) (goodIn_sub (fun _ h => List.mem_cons_of_mem _ (List.mem_append_right _ h)) (by decide +kernel))
set_option maxRecDepth 20000 in
theorem gX1_readWants_X5_place : GoodIn wsX1_readWants (wsV RX1 50 RX5 yX5_place wsX5_place) := goodIn_app (goodIn_of _ (by decide +kernel)) ggX1_readWants_X5_place
set_option maxRecDepth 20000 in
theorem ggX1_readWants_X4_direction : GoodIn wsX1_readWants wsX4_direction := goodIn_ca (goodIn_r _ [15, 16, 17, 18, 14, 19, 47, 48] (by decide +kernel) (by decide +kernel)) (goodIn_sub (fun _ h => List.mem_cons_of_mem _ (List.mem_append_right _ h)) (by decide +kernel))
set_option maxRecDepth 20000 in
theorem gX1_readWants_X4_direction : GoodIn wsX1_readWants (wsV RX1 54 RX4 yX4_direction wsX4_direction) := goodIn_app (goodIn_of _ (by decide +kernel)) ggX1_readWants_X4_direction
set_option maxRecDepth 20000 in
theorem ggX1_readWants_X3_beside : GoodIn wsX1_readWants wsX3_beside := goodIn_ca (goodIn_r _ [24, 25, 26, 27, 23, 28, 29, 30, 31, 32, 49] (by decide +kernel) (by decide +kernel)) (goodIn_sub (fun _ h => List.mem_cons_of_mem _ (List.mem_append_right _ h)) (by decide +kernel))
set_option maxRecDepth 20000 in
theorem gX1_readWants_X3_beside : GoodIn wsX1_readWants (wsV RX1 60 RX3 yX3_beside wsX3_beside) := goodIn_app (goodIn_of _ (by decide +kernel)) ggX1_readWants_X3_beside
set_option maxRecDepth 20000 in
theorem ggX1_readWants_X1_isMover : GoodIn wsX1_readWants wsX1_isMover := goodIn_ca (goodIn_r _ [37, 2, 1, 4, 5, 6, 7, 8, 9, 10, 38, 39, 40, 41, 42, 43, 44, 45, 46] (by decide +kernel) (by decide +kernel)) (goodIn_sub (fun _ h => List.mem_cons_of_mem _ (List.mem_append_right _ h)) (by decide +kernel))
set_option maxRecDepth 20000 in
theorem gX1_readWants_X1_isMover : GoodIn wsX1_readWants (wsV RX1 64 RX1 yX1_isMover wsX1_isMover) := goodIn_app (goodIn_of _ (by decide +kernel)) ggX1_readWants_X1_isMover
set_option maxRecDepth 20000 in
theorem ggX1_isMover_X5_place : GoodIn wsX1_isMover wsX5_place := goodIn_ca (goodIn_r _ [7, 8, 9, 14, 15, 16, 17, 18] (by decide +kernel) (by decide +kernel)) (goodIn_sub (fun _ h => List.mem_cons_of_mem _ (List.mem_append_right _ h)) (by decide +kernel))
set_option maxRecDepth 20000 in
theorem gX1_isMover_X5_place : GoodIn wsX1_isMover (wsV RX1 50 RX5 yX5_place wsX5_place) := goodIn_app (goodIn_of _ (by decide +kernel)) ggX1_isMover_X5_place
set_option maxRecDepth 20000 in
theorem ggX1_meetPairs_X1_facing : GoodIn wsX1_meetPairs wsX1_facing := goodIn_ca (goodIn_r _ [6, 1, 7, 8, 9, 10, 5, 11, 12, 13, 14, 15, 16, 17, 18, 19, 20, 21, 22, 23, 24, 25, 26, 27, 45, 46, 47, 48, 49, 50, 51, 52, 53] (by decide +kernel) (by decide +kernel)) (goodIn_sub (fun _ h => List.mem_cons_of_mem _ (List.mem_append_right _ h)) (by decide +kernel))
set_option maxRecDepth 20000 in
theorem gX1_meetPairs_X1_facing : GoodIn wsX1_meetPairs (wsV RX1 68 RX1 yX1_facing wsX1_facing) := goodIn_app (goodIn_of _ (by decide +kernel)) ggX1_meetPairs_X1_facing
set_option maxRecDepth 20000 in
theorem ggX1_meetPairs_X1_meet : GoodIn wsX1_meetPairs wsX1_meet := goodIn_ca (goodIn_r _ [31, 1, 7, 32, 33, 34, 15, 35, 17, 36, 12, 13, 14, 16, 18, 37, 38, 39, 5, 40, 41, 42, 43, 44, 45, 46, 47, 48, 49, 50, 51, 52, 53] (by decide +kernel) (by decide +kernel)) (goodIn_sub (fun _ h => List.mem_cons_of_mem _ (List.mem_append_right _ h)) (by decide +kernel))
set_option maxRecDepth 20000 in
theorem gX1_meetPairs_X1_meet : GoodIn wsX1_meetPairs (wsV RX1 71 RX1 yX1_meet wsX1_meet) := goodIn_app (goodIn_of _ (by decide +kernel)) ggX1_meetPairs_X1_meet
set_option maxRecDepth 20000 in
theorem ggX1_facing_X1_isMover : GoodIn wsX1_facing wsX1_isMover := goodIn_ca (goodIn_r _ [7, 2, 1, 8, 9, 10, 11, 12, 13, 14, 24, 25, 26, 27, 28, 29, 30, 31, 32] (by decide +kernel) (by decide +kernel)) (goodIn_sub (fun _ h => List.mem_cons_of_mem _ (List.mem_append_right _ h)) (by decide +kernel))
set_option maxRecDepth 20000 in
theorem gX1_facing_X1_isMover : GoodIn wsX1_facing (wsV RX1 64 RX1 yX1_isMover wsX1_isMover) := goodIn_app (goodIn_of _ (by decide +kernel)) ggX1_facing_X1_isMover
set_option maxRecDepth 20000 in
theorem ggX1_facing_X5_on : GoodIn wsX1_facing wsX5_on := goodIn_ca (goodIn_r _ [18, 13, 14, 28, 29, 30, 31, 32] (by decide +kernel) (by decide +kernel)) (goodIn_sub (fun _ h => List.mem_cons_of_mem _ (List.mem_append_right _ h)) (by decide +kernel))
set_option maxRecDepth 20000 in
theorem gX1_facing_X5_on : GoodIn wsX1_facing (wsV RX1 74 RX5 yX5_on wsX5_on) := goodIn_app (goodIn_of _ (by decide +kernel)) ggX1_facing_X5_on
set_option maxRecDepth 20000 in
theorem ggX1_facing_X5_place : GoodIn wsX1_facing wsX5_place := goodIn_ca (goodIn_r _ [12, 13, 14, 28, 29, 30, 31, 32] (by decide +kernel) (by decide +kernel)) (goodIn_sub (fun _ h => List.mem_cons_of_mem _ (List.mem_append_right _ h)) (by decide +kernel))
set_option maxRecDepth 20000 in
theorem gX1_facing_X5_place : GoodIn wsX1_facing (wsV RX1 50 RX5 yX5_place wsX5_place) := goodIn_app (goodIn_of _ (by decide +kernel)) ggX1_facing_X5_place
set_option maxRecDepth 20000 in
theorem ggX1_facing_X5_owner : GoodIn wsX1_facing wsX5_owner := goodIn_ca (goodIn_r _ [22, 13, 23, 28, 29, 30, 31, 32] (by decide +kernel) (by decide +kernel)) (goodIn_sub (fun _ h => List.mem_cons_of_mem _ (List.mem_append_right _ h)) (by decide +kernel))
set_option maxRecDepth 20000 in
theorem gX1_facing_X5_owner : GoodIn wsX1_facing (wsV RX1 77 RX5 yX5_owner wsX5_owner) := goodIn_app (goodIn_of _ (by decide +kernel)) ggX1_facing_X5_owner
set_option maxRecDepth 20000 in
theorem ggX1_meet_X5_power : GoodIn wsX1_meet wsX5_power := goodIn_ca (goodIn_r _ [7, 8, 9, 28, 29, 30, 31, 32] (by decide +kernel) (by decide +kernel)) (goodIn_sub (fun _ h => List.mem_cons_of_mem _ (List.mem_append_right _ h)) (by decide +kernel))
set_option maxRecDepth 20000 in
theorem gX1_meet_X5_power : GoodIn wsX1_meet (wsV RX1 80 RX5 yX5_power wsX5_power) := goodIn_app (goodIn_of _ (by decide +kernel)) ggX1_meet_X5_power
set_option maxRecDepth 20000 in
theorem ggX1_meet_X5_place : GoodIn wsX1_meet wsX5_place := goodIn_ca (goodIn_r _ [13, 8, 14, 28, 29, 30, 31, 32] (by decide +kernel) (by decide +kernel)) (goodIn_sub (fun _ h => List.mem_cons_of_mem _ (List.mem_append_right _ h)) (by decide +kernel))
set_option maxRecDepth 20000 in
theorem gX1_meet_X5_place : GoodIn wsX1_meet (wsV RX1 50 RX5 yX5_place wsX5_place) := goodIn_app (goodIn_of _ (by decide +kernel)) ggX1_meet_X5_place
set_option maxRecDepth 20000 in
theorem ggX1_meet_X1_lose : GoodIn wsX1_meet wsX1_lose := goodIn_ca (goodIn_r _ [19, 1, 2, 20, 21, 22, 6, 23, 8, 14, 24, 25, 26, 27, 28, 29, 30, 31, 32] (by decide +kernel) (by decide +kernel)) (goodIn_sub (fun _ h => List.mem_cons_of_mem _ (List.mem_append_right _ h)) (by decide +kernel))
set_option maxRecDepth 20000 in
theorem gX1_meet_X1_lose : GoodIn wsX1_meet (wsV RX1 83 RX1 yX1_lose wsX1_lose) := goodIn_app (goodIn_of _ (by decide +kernel)) ggX1_meet_X1_lose
set_option maxRecDepth 20000 in
theorem ggX1_lose_X5_move : GoodIn wsX1_lose wsX5_move := goodIn_ca (goodIn_r _ [7, 8, 9, 14, 15, 16, 17, 18] (by decide +kernel) (by decide +kernel)) (goodIn_sub (fun _ h => List.mem_cons_of_mem _ (List.mem_append_right _ h)) (by decide +kernel))
set_option maxRecDepth 20000 in
theorem gX1_lose_X5_move : GoodIn wsX1_lose (wsV RX1 87 RX5 yX5_move wsX5_move) := goodIn_app (goodIn_of _ (by decide +kernel)) ggX1_lose_X5_move
set_option maxRecDepth 20000 in
theorem ggX1_settleCells_X1_lowestContested : GoodIn wsX1_settleCells wsX1_lowestContested := goodIn_ca (goodIn_r _ [5, 6, 7, 8, 9, 10, 4, 11, 12, 13, 14, 15, 16, 17, 18, 19, 20, 21, 22, 66, 67, 68, 69, 70, 71, 72, 73, 74] (by decide +kernel) (by decide +kernel)) (goodIn_sub (fun _ h => List.mem_cons_of_mem _ (List.mem_append_right _ h)) (by decide +kernel))
set_option maxRecDepth 20000 in
theorem gX1_settleCells_X1_lowestContested : GoodIn wsX1_settleCells (wsV RX1 91 RX1 yX1_lowestContested wsX1_lowestContested) := goodIn_app (goodIn_of _ (by decide +kernel)) ggX1_settleCells_X1_lowestContested
set_option maxRecDepth 20000 in
theorem ggX1_settleCells_X1_lookAt : GoodIn wsX1_settleCells wsX1_lookAt := goodIn_ca (goodIn_r _ [26, 6, 7, 27, 28, 29, 15, 30, 17, 18, 31, 32, 33, 4, 34, 35, 36, 37, 38, 39, 40, 41, 42, 43, 44, 45, 46, 47, 48, 49, 50, 51, 52, 53, 54, 55, 56, 57, 12, 13, 14, 16, 58, 59, 60, 61, 62, 63, 64, 65, 66, 67, 68, 69, 70, 71, 72, 73, 74] (by decide +kernel) (by decide +kernel)) (goodIn_sub (fun _ h => List.mem_cons_of_mem _ (List.mem_append_right _ h)) (by decide +kernel))
set_option maxRecDepth 20000 in
theorem gX1_settleCells_X1_lookAt : GoodIn wsX1_settleCells (wsV RX1 94 RX1 yX1_lookAt wsX1_lookAt) := goodIn_app (goodIn_of _ (by decide +kernel)) ggX1_settleCells_X1_lookAt
set_option maxRecDepth 20000 in
theorem ggX1_lowestContested_X1_isMover : GoodIn wsX1_lowestContested wsX1_isMover := goodIn_ca (goodIn_r _ [7, 2, 1, 8, 9, 10, 11, 12, 13, 14, 19, 20, 21, 22, 23, 24, 25, 26, 27] (by decide +kernel) (by decide +kernel)) (goodIn_sub (fun _ h => List.mem_cons_of_mem _ (List.mem_append_right _ h)) (by decide +kernel))
set_option maxRecDepth 20000 in
theorem gX1_lowestContested_X1_isMover : GoodIn wsX1_lowestContested (wsV RX1 64 RX1 yX1_isMover wsX1_isMover) := goodIn_app (goodIn_of _ (by decide +kernel)) ggX1_lowestContested_X1_isMover
set_option maxRecDepth 20000 in
theorem ggX1_lowestContested_X1_isContested : GoodIn wsX1_lowestContested wsX1_isContested := goodIn_ca (goodIn_r _ [18, 1, 2, 19, 20, 21, 22, 23, 24, 25, 26, 27] (by decide +kernel) (by decide +kernel)) (goodIn_sub (fun _ h => List.mem_cons_of_mem _ (List.mem_append_right _ h)) (by decide +kernel))
set_option maxRecDepth 20000 in
theorem gX1_lowestContested_X1_isContested : GoodIn wsX1_lowestContested (wsV RX1 97 RX1 yX1_isContested wsX1_isContested) := goodIn_app (goodIn_of _ (by decide +kernel)) ggX1_lowestContested_X1_isContested
set_option maxRecDepth 20000 in
theorem ggX1_lookAt_X5_on : GoodIn wsX1_lookAt wsX5_on := goodIn_ca (goodIn_r _ [7, 8, 9, 54, 55, 56, 57, 58] (by decide +kernel) (by decide +kernel)) (goodIn_sub (fun _ h => List.mem_cons_of_mem _ (List.mem_append_right _ h)) (by decide +kernel))
set_option maxRecDepth 20000 in
theorem gX1_lookAt_X5_on : GoodIn wsX1_lookAt (wsV RX1 74 RX5 yX5_on wsX5_on) := goodIn_app (goodIn_of _ (by decide +kernel)) ggX1_lookAt_X5_on
set_option maxRecDepth 20000 in
theorem ggX1_lookAt_X1_strongestFor : GoodIn wsX1_lookAt wsX1_strongestFor := goodIn_ca (goodIn_r _ [14, 15, 1, 2, 16, 17, 18, 19, 20, 21, 22, 6, 23, 8, 24, 25, 26, 27, 28, 29, 50, 51, 52, 53, 54, 55, 56, 57, 58] (by decide +kernel) (by decide +kernel)) (goodIn_sub (fun _ h => List.mem_cons_of_mem _ (List.mem_append_right _ h)) (by decide +kernel))
set_option maxRecDepth 20000 in
theorem gX1_lookAt_X1_strongestFor : GoodIn wsX1_lookAt (wsV RX1 100 RX1 yX1_strongestFor wsX1_strongestFor) := goodIn_app (goodIn_of _ (by decide +kernel)) ggX1_lookAt_X1_strongestFor
set_option maxRecDepth 20000 in
theorem ggX1_lookAt_X1_firstMover : GoodIn wsX1_lookAt wsX1_firstMover := goodIn_ca (goodIn_r _ [33, 1, 2, 20, 21, 22, 6, 23, 8, 24, 50, 51, 52, 53, 54, 55, 56, 57, 58] (by decide +kernel) (by decide +kernel)) (goodIn_sub (fun _ h => List.mem_cons_of_mem _ (List.mem_append_right _ h)) (by decide +kernel))
set_option maxRecDepth 20000 in
theorem gX1_lookAt_X1_firstMover : GoodIn wsX1_lookAt (wsV RX1 103 RX1 yX1_firstMover wsX1_firstMover) := goodIn_app (goodIn_of _ (by decide +kernel)) ggX1_lookAt_X1_firstMover
set_option maxRecDepth 20000 in
theorem ggX1_lookAt_X1_turnBack : GoodIn wsX1_lookAt wsX1_turnBack := goodIn_ca (goodIn_r _ [37, 1, 2, 38, 39, 40, 6, 41, 8, 9, 50, 51, 52, 53, 54, 55, 56, 57, 58] (by decide +kernel) (by decide +kernel)) (goodIn_sub (fun _ h => List.mem_cons_of_mem _ (List.mem_append_right _ h)) (by decide +kernel))
set_option maxRecDepth 20000 in
theorem gX1_lookAt_X1_turnBack : GoodIn wsX1_lookAt (wsV RX1 106 RX1 yX1_turnBack wsX1_turnBack) := goodIn_app (goodIn_of _ (by decide +kernel)) ggX1_lookAt_X1_turnBack
set_option maxRecDepth 20000 in
theorem ggX1_lookAt_X5_owner : GoodIn wsX1_lookAt wsX5_owner := goodIn_ca (goodIn_r _ [23, 8, 24, 54, 55, 56, 57, 58] (by decide +kernel) (by decide +kernel)) (goodIn_sub (fun _ h => List.mem_cons_of_mem _ (List.mem_append_right _ h)) (by decide +kernel))
set_option maxRecDepth 20000 in
theorem gX1_lookAt_X5_owner : GoodIn wsX1_lookAt (wsV RX1 77 RX5 yX5_owner wsX5_owner) := goodIn_app (goodIn_of _ (by decide +kernel)) ggX1_lookAt_X5_owner
set_option maxRecDepth 20000 in
theorem ggX1_lookAt_X1_lose : GoodIn wsX1_lookAt wsX1_lose := goodIn_ca (goodIn_r _ [45, 1, 2, 46, 47, 48, 6, 49, 8, 9, 50, 51, 52, 53, 54, 55, 56, 57, 58] (by decide +kernel) (by decide +kernel)) (goodIn_sub (fun _ h => List.mem_cons_of_mem _ (List.mem_append_right _ h)) (by decide +kernel))
set_option maxRecDepth 20000 in
theorem gX1_lookAt_X1_lose : GoodIn wsX1_lookAt (wsV RX1 83 RX1 yX1_lose wsX1_lose) := goodIn_app (goodIn_of _ (by decide +kernel)) ggX1_lookAt_X1_lose
set_option maxRecDepth 20000 in
theorem ggX1_strongestFor_J7_fill_53178 : GoodIn wsX1_strongestFor wsJ7_fill_53178 := goodIn_r _ [7] (by decide +kernel) (by decide +kernel)
set_option maxRecDepth 20000 in
theorem gX1_strongestFor_J7_fill_53178 : GoodIn wsX1_strongestFor (va_wsS RX1 109 yJ7_fill_53178 wsJ7_fill_53178) := goodIn_app (goodIn_of _ (by decide +kernel)) ggX1_strongestFor_J7_fill_53178
set_option maxRecDepth 20000 in
theorem ggX1_strongestFor_X5_owner : GoodIn wsX1_strongestFor wsX5_owner := goodIn_ca (goodIn_r _ [12, 13, 14, 24, 25, 26, 27, 28] (by decide +kernel) (by decide +kernel)) (goodIn_sub (fun _ h => List.mem_cons_of_mem _ (List.mem_append_right _ h)) (by decide +kernel))
set_option maxRecDepth 20000 in
theorem gX1_strongestFor_X5_owner : GoodIn wsX1_strongestFor (wsV RX1 77 RX5 yX5_owner wsX5_owner) := goodIn_app (goodIn_of _ (by decide +kernel)) ggX1_strongestFor_X5_owner
set_option maxRecDepth 20000 in
theorem ggX1_strongestFor_X5_power : GoodIn wsX1_strongestFor wsX5_power := goodIn_ca (goodIn_r _ [18, 13, 19, 24, 25, 26, 27, 28] (by decide +kernel) (by decide +kernel)) (goodIn_sub (fun _ h => List.mem_cons_of_mem _ (List.mem_append_right _ h)) (by decide +kernel))
set_option maxRecDepth 20000 in
theorem gX1_strongestFor_X5_power : GoodIn wsX1_strongestFor (wsV RX1 80 RX5 yX5_power wsX5_power) := goodIn_app (goodIn_of _ (by decide +kernel)) ggX1_strongestFor_X5_power
set_option maxRecDepth 20000 in
theorem ggX1_firstMover_X5_owner : GoodIn wsX1_firstMover wsX5_owner := goodIn_ca (goodIn_r _ [7, 8, 9, 14, 15, 16, 17, 18] (by decide +kernel) (by decide +kernel)) (goodIn_sub (fun _ h => List.mem_cons_of_mem _ (List.mem_append_right _ h)) (by decide +kernel))
set_option maxRecDepth 20000 in
theorem gX1_firstMover_X5_owner : GoodIn wsX1_firstMover (wsV RX1 77 RX5 yX5_owner wsX5_owner) := goodIn_app (goodIn_of _ (by decide +kernel)) ggX1_firstMover_X5_owner
set_option maxRecDepth 20000 in
theorem ggX1_turnBack_X5_place : GoodIn wsX1_turnBack wsX5_place := goodIn_ca (goodIn_r _ [7, 8, 9, 14, 15, 16, 17, 18] (by decide +kernel) (by decide +kernel)) (goodIn_sub (fun _ h => List.mem_cons_of_mem _ (List.mem_append_right _ h)) (by decide +kernel))
set_option maxRecDepth 20000 in
theorem gX1_turnBack_X5_place : GoodIn wsX1_turnBack (wsV RX1 50 RX5 yX5_place wsX5_place) := goodIn_app (goodIn_of _ (by decide +kernel)) ggX1_turnBack_X5_place
set_option maxRecDepth 20000 in
theorem ggX1_moveAll_X5_move : GoodIn wsX1_moveAll wsX5_move := goodIn_ca (goodIn_r _ [7, 8, 9, 14, 15, 16, 17, 18] (by decide +kernel) (by decide +kernel)) (goodIn_sub (fun _ h => List.mem_cons_of_mem _ (List.mem_append_right _ h)) (by decide +kernel))
set_option maxRecDepth 20000 in
theorem gX1_moveAll_X5_move : GoodIn wsX1_moveAll (wsV RX1 87 RX5 yX5_move wsX5_move) := goodIn_app (goodIn_of _ (by decide +kernel)) ggX1_moveAll_X5_move
set_option maxRecDepth 20000 in
theorem ggX1_unitSpots_X5_place : GoodIn wsX1_unitSpots wsX5_place := goodIn_ca (goodIn_r _ [7, 8, 9, 47, 48, 49, 50, 51] (by decide +kernel) (by decide +kernel)) (goodIn_sub (fun _ h => List.mem_cons_of_mem _ (List.mem_append_left _ (List.mem_append_right _ h))) (by decide +kernel))
set_option maxRecDepth 20000 in
theorem gX1_unitSpots_X5_place : GoodIn wsX1_unitSpots (wsV RX1 50 RX5 yX5_place wsX5_place) := goodIn_app (goodIn_of _ (by decide +kernel)) ggX1_unitSpots_X5_place
set_option maxRecDepth 20000 in
theorem ggX1_unitSpots_X5_sight : GoodIn wsX1_unitSpots wsX5_sight := goodIn_ca (goodIn_r _ [13, 8, 14, 47, 48, 49, 50, 51] (by decide +kernel) (by decide +kernel)) (goodIn_sub (fun _ h => List.mem_cons_of_mem _ (List.mem_append_left _ (List.mem_append_right _ h))) (by decide +kernel))
set_option maxRecDepth 20000 in
theorem gX1_unitSpots_X5_sight : GoodIn wsX1_unitSpots (wsV RX1 115 RX5 yX5_sight wsX5_sight) := goodIn_app (goodIn_of _ (by decide +kernel)) ggX1_unitSpots_X5_sight
set_option maxRecDepth 20000 in
theorem ggX1_unitSpots_X3_at : GoodIn wsX1_unitSpots wsX3_at := goodIn_ca (goodIn_r _ [19, 20, 21, 22, 23, 52] (by decide +kernel) (by decide +kernel)) (goodIn_sub (fun _ h => List.mem_cons_of_mem _ (List.mem_append_left _ (List.mem_append_right _ h))) (by decide +kernel))
set_option maxRecDepth 20000 in
theorem gX1_unitSpots_X3_at : GoodIn wsX1_unitSpots (wsV RX1 118 RX3 yX3_at wsX3_at) := goodIn_app (goodIn_of _ (by decide +kernel)) ggX1_unitSpots_X3_at
set_option maxRecDepth 20000 in
theorem ggX1_unitSpots_X3_distance : GoodIn wsX1_unitSpots wsX3_distance := goodIn_r _ [26, 27, 28, 29, 30, 31, 32, 33] (by decide +kernel) (by decide +kernel)
set_option maxRecDepth 20000 in
theorem gX1_unitSpots_X3_distance : GoodIn wsX1_unitSpots (va_wsS RX1 122 yX3_distance wsX3_distance) := goodIn_app (goodIn_of _ (by decide +kernel)) ggX1_unitSpots_X3_distance
set_option maxRecDepth 20000 in
theorem ggX1_unitSpots_X3_isClear : GoodIn wsX1_unitSpots wsX3_isClear := goodIn_ca (goodIn_ca (goodIn_r _ [37, 38, 25, 18, 26, 27, 28, 29, 30, 31, 32, 33, 39, 16, 17, 19, 20, 21, 22, 23, 40, 41, 42, 52] (by decide +kernel) (by decide +kernel)) (goodIn_sub (fun _ h => List.mem_cons_of_mem _ (List.mem_append_left _ (List.mem_append_right _ h))) (by decide +kernel))) (goodIn_sub (fun _ h => List.mem_cons_of_mem _ (List.mem_append_right _ h)) (by decide +kernel))
set_option maxRecDepth 20000 in
theorem gX1_unitSpots_X3_isClear : GoodIn wsX1_unitSpots (wsV RX1 125 RX3 yX3_isClear wsX3_isClear) := goodIn_app (goodIn_of _ (by decide +kernel)) ggX1_unitSpots_X3_isClear
set_option maxRecDepth 20000 in
theorem ggX1_playerSpots_X5_owner : GoodIn wsX1_playerSpots wsX5_owner := goodIn_ca (goodIn_r _ [6, 7, 8, 57, 58, 59, 60, 61] (by decide +kernel) (by decide +kernel)) (goodIn_sub (fun _ h => List.mem_cons_of_mem _ (List.mem_append_left _ (List.mem_append_right _ h))) (by decide +kernel))
set_option maxRecDepth 20000 in
theorem gX1_playerSpots_X5_owner : GoodIn wsX1_playerSpots (wsV RX1 77 RX5 yX5_owner wsX5_owner) := goodIn_app (goodIn_of _ (by decide +kernel)) ggX1_playerSpots_X5_owner
set_option maxRecDepth 20000 in
theorem ggX1_playerSpots_X1_unitSpots : GoodIn wsX1_playerSpots wsX1_unitSpots := goodIn_ca (goodIn_ca (goodIn_r _ [13, 1, 14, 15, 16, 17, 5, 18, 7, 19, 20, 21, 22, 23, 24, 25, 26, 27, 28, 29, 30, 31, 32, 33, 34, 35, 36, 37, 38, 39, 40, 41, 42, 43, 44, 45, 46, 47, 48, 49, 50, 51, 52, 53, 54, 55, 56, 57, 58, 59, 60, 61, 62] (by decide +kernel) (by decide +kernel)) (goodIn_sub (fun _ h => List.mem_cons_of_mem _ (List.mem_append_left _ (List.mem_append_right _ h))) (by decide +kernel))) (goodIn_sub (fun _ h => List.mem_cons_of_mem _ (List.mem_append_right _ h)) (by decide +kernel))
set_option maxRecDepth 20000 in
theorem gX1_playerSpots_X1_unitSpots : GoodIn wsX1_playerSpots (wsV RX1 129 RX1 yX1_unitSpots wsX1_unitSpots) := goodIn_app (goodIn_of _ (by decide +kernel)) ggX1_playerSpots_X1_unitSpots
set_option maxRecDepth 20000 in
theorem ggX2_add_X2_isBehind : GoodIn wsX2_add wsX2_isBehind := goodIn_r _ [6, 7, 8, 9, 10, 11, 12] (by decide +kernel) (by decide +kernel)
set_option maxRecDepth 20000 in
theorem gX2_add_X2_isBehind : GoodIn wsX2_add (va_wsS RX2 19 yX2_isBehind wsX2_isBehind) := goodIn_app (goodIn_of _ (by decide +kernel)) ggX2_add_X2_isBehind
set_option maxRecDepth 20000 in
theorem ggX2_add_X6_numberFor : GoodIn wsX2_add wsX6_numberFor := goodIn_r _ [14, 10] (by decide +kernel) (by decide +kernel)
set_option maxRecDepth 20000 in
theorem gX2_add_X6_numberFor_n23 : GoodIn wsX2_add (wsX6_numberFor) := ggX2_add_X6_numberFor
set_option maxRecDepth 20000 in
theorem ggX2_add_X2_dropFirst : GoodIn wsX2_add wsX2_dropFirst := goodIn_ca (goodIn_r _ [18, 1, 2, 19, 20] (by decide +kernel) (by decide +kernel)) (goodIn_sub (fun _ h => List.mem_cons_of_mem _ (List.mem_append_right _ h)) (by decide +kernel))
set_option maxRecDepth 20000 in
theorem gX2_add_X2_dropFirst : GoodIn wsX2_add (wsV RX2 27 RX2 yX2_dropFirst wsX2_dropFirst) := goodIn_app (goodIn_of _ (by decide +kernel)) ggX2_add_X2_dropFirst
set_option maxRecDepth 20000 in
theorem ggX2_has_X6_turnOf : GoodIn wsX2_has wsX6_turnOf := goodIn_r _ [5, 6] (by decide +kernel) (by decide +kernel)
set_option maxRecDepth 20000 in
theorem gX2_has_X6_turnOf_n30 : GoodIn wsX2_has (wsX6_turnOf) := ggX2_has_X6_turnOf
set_option maxRecDepth 20000 in
theorem ggX2_has_X6_unitOf : GoodIn wsX2_has wsX6_unitOf := goodIn_r _ [8] (by decide +kernel) (by decide +kernel)
set_option maxRecDepth 20000 in
theorem gX2_has_X6_unitOf_n34 : GoodIn wsX2_has (wsX6_unitOf) := ggX2_has_X6_unitOf
set_option maxRecDepth 20000 in
theorem ggX2_latestOnCell_X6_placeOf : GoodIn wsX2_latestOnCell wsX6_placeOf := goodIn_r _ [5, 6] (by decide +kernel) (by decide +kernel)
set_option maxRecDepth 20000 in
theorem gX2_latestOnCell_X6_placeOf_n37 : GoodIn wsX2_latestOnCell (wsX6_placeOf) := ggX2_latestOnCell_X6_placeOf
set_option maxRecDepth 20000 in
theorem ggX2_latestOfUnit_X6_unitOf : GoodIn wsX2_latestOfUnit wsX6_unitOf := goodIn_r _ [5] (by decide +kernel) (by decide +kernel)
set_option maxRecDepth 20000 in
theorem gX2_latestOfUnit_X6_unitOf_n34 : GoodIn wsX2_latestOfUnit (wsX6_unitOf) := ggX2_latestOfUnit_X6_unitOf
set_option maxRecDepth 20000 in
theorem ggX2_isBehind_X6_turnOf : GoodIn wsX2_isBehind wsX6_turnOf := goodIn_r _ [3, 4] (by decide +kernel) (by decide +kernel)
set_option maxRecDepth 20000 in
theorem gX2_isBehind_X6_turnOf_n30 : GoodIn wsX2_isBehind (wsX6_turnOf) := ggX2_isBehind_X6_turnOf
set_option maxRecDepth 20000 in
theorem ggX2_isBehind_X6_unitOf : GoodIn wsX2_isBehind wsX6_unitOf := goodIn_r _ [6] (by decide +kernel) (by decide +kernel)
set_option maxRecDepth 20000 in
theorem gX2_isBehind_X6_unitOf_n34 : GoodIn wsX2_isBehind (wsX6_unitOf) := ggX2_isBehind_X6_unitOf
set_option maxRecDepth 20000 in
theorem ggX3_grow_J0_charAt_5068e : GoodIn wsX3_grow wsJ0_charAt_5068e := goodIn_r _ [7, 8, 9, 10, 11, 6, 12, 13, 14, 15, 16, 17, 18, 19, 20, 21, 22, 23, 24, 25, 26, 27, 28, 29, 30, 31, 32, 33, 34, 35, 36, 37, 38, 39, 40, 41, 42, 43, 45, 46, 47, 48] (by decide +kernel) (by decide +kernel)
set_option maxRecDepth 20000 in
theorem gX3_grow_J0_charAt_5068e : GoodIn wsX3_grow (wsV RX3 18 RJ0 yJ0_charAt_5068e wsJ0_charAt_5068e) := goodIn_app (goodIn_of _ (by decide +kernel)) ggX3_grow_J0_charAt_5068e
set_option maxRecDepth 20000 in
theorem ggX3_at_X6_isCell : GoodIn wsX3_at wsX6_isCell := goodIn_r _ [4] (by decide +kernel) (by decide +kernel)
set_option maxRecDepth 20000 in
theorem gX3_at_X6_isCell_n24 : GoodIn wsX3_at (wsX6_isCell) := ggX3_at_X6_isCell
set_option maxRecDepth 20000 in
theorem ggX3_beside_X3_at : GoodIn wsX3_beside wsX3_at := goodIn_ca (goodIn_r _ [5, 6, 7, 8, 9, 10] (by decide +kernel) (by decide +kernel)) (goodIn_sub (fun _ h => List.mem_cons_of_mem _ (List.mem_append_right _ h)) (by decide +kernel))
set_option maxRecDepth 20000 in
theorem gX3_beside_X3_at : GoodIn wsX3_beside (wsV RX3 35 RX3 yX3_at wsX3_at) := goodIn_app (goodIn_of _ (by decide +kernel)) ggX3_beside_X3_at
set_option maxRecDepth 20000 in
theorem ggX3_isClear_X3_distance : GoodIn wsX3_isClear wsX3_distance := goodIn_r _ [4, 5, 6, 7, 8, 9, 10, 11] (by decide +kernel) (by decide +kernel)
set_option maxRecDepth 20000 in
theorem gX3_isClear_X3_distance : GoodIn wsX3_isClear (va_wsS RX3 38 yX3_distance wsX3_distance) := goodIn_app (goodIn_of _ (by decide +kernel)) ggX3_isClear_X3_distance
set_option maxRecDepth 20000 in
theorem ggX3_isClear_X3_at : GoodIn wsX3_isClear wsX3_at := goodIn_ca (goodIn_r _ [15, 16, 17, 18, 19, 23] (by decide +kernel) (by decide +kernel)) (goodIn_sub (fun _ h => List.mem_cons_of_mem _ (List.mem_append_left _ (List.mem_append_right _ h))) (by decide +kernel))
set_option maxRecDepth 20000 in
theorem gX3_isClear_X3_at : GoodIn wsX3_isClear (wsV RX3 35 RX3 yX3_at wsX3_at) := goodIn_app (goodIn_of _ (by decide +kernel)) ggX3_isClear_X3_at
set_option maxRecDepth 20000 in
theorem ggX3_isClear_X3_share : GoodIn wsX3_isClear wsX3_share := goodIn_ca (goodIn_r _ [22, 5, 6, 7, 8] (by decide +kernel) (by decide +kernel)) (goodIn_sub (fun _ h => List.mem_cons_of_mem _ (List.mem_append_right _ h)) (by decide +kernel))
set_option maxRecDepth 20000 in
theorem gX3_isClear_X3_share : GoodIn wsX3_isClear (va_wsS RX3 42 yX3_share wsX3_share) := goodIn_app (goodIn_of _ (by decide +kernel)) ggX3_isClear_X3_share
set_option maxRecDepth 20000 in
theorem ggX4_init_J7_fill_53178 : GoodIn wsX4_init wsJ7_fill_53178 := goodIn_r _ [10] (by decide +kernel) (by decide +kernel)
set_option maxRecDepth 20000 in
theorem gX4_init_J7_fill_53178 : GoodIn wsX4_init (va_wsS RX4 18 yJ7_fill_53178 wsJ7_fill_53178) := goodIn_app (goodIn_of _ (by decide +kernel)) ggX4_init_J7_fill_53178
set_option maxRecDepth 20000 in
theorem ggX4_give_X4_givenTo : GoodIn wsX4_give wsX4_givenTo := goodIn_ca (goodIn_r _ [7, 2, 11, 12] (by decide +kernel) (by decide +kernel)) (goodIn_sub (fun _ h => List.mem_cons_of_mem _ (List.mem_append_right _ h)) (by decide +kernel))
set_option maxRecDepth 20000 in
theorem gX4_give_X4_givenTo : GoodIn wsX4_give (wsV RX4 24 RX4 yX4_givenTo wsX4_givenTo) := goodIn_app (goodIn_of _ (by decide +kernel)) ggX4_give_X4_givenTo
set_option maxRecDepth 20000 in
theorem ggX4_give_X4_spotOf : GoodIn wsX4_give wsX4_spotOf := goodIn_r _ [10] (by decide +kernel) (by decide +kernel)
set_option maxRecDepth 20000 in
theorem gX4_give_X4_spotOf : GoodIn wsX4_give (va_wsS RX4 28 yX4_spotOf wsX4_spotOf) := goodIn_app (goodIn_of _ (by decide +kernel)) ggX4_give_X4_spotOf
set_option maxRecDepth 20000 in
theorem ggX4_startTurn_J7_fill_53178 : GoodIn wsX4_startTurn wsJ7_fill_53178 := goodIn_r _ [5] (by decide +kernel) (by decide +kernel)
set_option maxRecDepth 20000 in
theorem gX4_startTurn_J7_fill_53178 : GoodIn wsX4_startTurn (va_wsS RX4 18 yJ7_fill_53178 wsJ7_fill_53178) := goodIn_app (goodIn_of _ (by decide +kernel)) ggX4_startTurn_J7_fill_53178
set_option maxRecDepth 20000 in
theorem ggX4_direction_X4_spotOf : GoodIn wsX4_direction wsX4_spotOf := goodIn_r _ [5] (by decide +kernel) (by decide +kernel)
set_option maxRecDepth 20000 in
theorem gX4_direction_X4_spotOf : GoodIn wsX4_direction (va_wsS RX4 28 yX4_spotOf wsX4_spotOf) := goodIn_app (goodIn_of _ (by decide +kernel)) ggX4_direction_X4_spotOf
set_option maxRecDepth 20000 in
theorem ggX5_startLike_X5_put : GoodIn wsX5_startLike wsX5_put := goodIn_ca (goodIn_r _ [9, 1, 2, 3, 4, 10, 11, 12, 13, 14, 15] (by decide +kernel) (by decide +kernel)) (goodIn_sub (fun _ h => List.mem_cons_of_mem _ (List.mem_append_right _ h)) (by decide +kernel))
set_option maxRecDepth 20000 in
theorem gX5_startLike_X5_put : GoodIn wsX5_startLike (wsV RX5 28 RX5 yX5_put wsX5_put) := goodIn_app (goodIn_of _ (by decide +kernel)) ggX5_startLike_X5_put
set_option maxRecDepth 20000 in
theorem ggX5_lives_X5_place : GoodIn wsX5_lives wsX5_place := goodIn_ca (goodIn_r _ [5, 6, 7, 8, 9, 10, 11, 12] (by decide +kernel) (by decide +kernel)) (goodIn_sub (fun _ h => List.mem_cons_of_mem _ (List.mem_append_right _ h)) (by decide +kernel))
set_option maxRecDepth 20000 in
theorem gX5_lives_X5_place : GoodIn wsX5_lives (wsV RX5 32 RX5 yX5_place wsX5_place) := goodIn_app (goodIn_of _ (by decide +kernel)) ggX5_lives_X5_place
