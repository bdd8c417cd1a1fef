set_option maxRecDepth 20000 in
theorem ggX6_init_X1_init : GoodIn wsX6_init wsX1_init := goodIn_r _ [25, 26, 2, 3, 27, 28, 29, 30, 31, 32, 33, 34, 17, 35, 36, 37, 38, 39, 40, 41, 42, 43, 44, 45, 46, 47, 48, 140, 115, 116, 117, 118, 141, 142, 143, 144, 145] (by decide +kernel) (by decide +kernel)
set_option maxRecDepth 20000 in
theorem gX6_init_X1_init_n9 : GoodIn wsX6_init (wsX1_init) := ggX6_init_X1_init
set_option maxRecDepth 20000 in
theorem ggX6_init_X4_init : GoodIn wsX6_init wsX4_init := goodIn_r _ [51, 52, 2, 3, 17, 53, 54, 55, 56, 57, 58, 129, 130] (by decide +kernel) (by decide +kernel)
set_option maxRecDepth 20000 in
theorem gX6_init_X4_init : GoodIn wsX6_init (wsX4_init) := ggX6_init_X4_init
set_option maxRecDepth 20000 in
theorem ggX6_init_X2_init : GoodIn wsX6_init wsX2_init := goodIn_r _ [60, 61, 2, 3, 17, 62, 131, 132] (by decide +kernel) (by decide +kernel)
set_option maxRecDepth 20000 in
theorem gX6_init_X2_init_n45 : GoodIn wsX6_init (wsX2_init) := ggX6_init_X2_init
set_option maxRecDepth 20000 in
theorem ggX6_init_X0_init : GoodIn wsX6_init wsX0_init := goodIn_r _ [64, 65, 2, 3, 17, 66, 67, 68, 133, 134, 135, 136, 137, 138, 139] (by decide +kernel) (by decide +kernel)
set_option maxRecDepth 20000 in
theorem gX6_init_X0_init_n46 : GoodIn wsX6_init (wsX0_init) := ggX6_init_X0_init
set_option maxRecDepth 20000 in
theorem ggX6_init_X3_grow : GoodIn wsX6_init wsX3_grow := goodIn_ca (goodIn_r _ [72, 73, 41, 74, 75, 76, 77, 78, 79, 80, 81, 82, 83, 84, 85, 86, 87, 88, 89, 90, 91, 92, 93, 94, 95, 96, 97, 98, 99, 100, 101, 102, 103, 104, 105, 106, 107, 108, 109, 110, 111, 112, 113, 114, 140, 146, 147, 148, 149] (by decide +kernel) (by decide +kernel)) (goodIn_sub (fun _ h => List.mem_cons_of_mem _ (List.mem_append_right _ h)) (by decide +kernel))
set_option maxRecDepth 20000 in
theorem gX6_init_X3_grow : GoodIn wsX6_init (wsV RX6 51 RX3 yX3_grow wsX3_grow) := goodIn_app (goodIn_of _ (by decide +kernel)) ggX6_init_X3_grow
set_option maxRecDepth 20000 in
theorem ggX6_setSeed_X3_grow : GoodIn wsX6_setSeed wsX3_grow := goodIn_ca (goodIn_r _ [9, 10, 11, 12, 13, 14, 15, 16, 17, 18, 19, 20, 21, 22, 23, 24, 25, 26, 27, 28, 29, 30, 31, 32, 33, 34, 35, 36, 37, 38, 39, 40, 41, 42, 43, 44, 45, 46, 47, 48, 49, 50, 51, 52, 72, 73, 74, 75, 76] (by decide +kernel) (by decide +kernel)) (goodIn_sub (fun _ h => List.mem_cons_of_mem _ (List.mem_append_right _ h)) (by decide +kernel))
set_option maxRecDepth 20000 in
theorem gX6_setSeed_X3_grow : GoodIn wsX6_setSeed (wsV RX6 51 RX3 yX3_grow wsX3_grow) := goodIn_app (goodIn_of _ (by decide +kernel)) ggX6_setSeed_X3_grow
set_option maxRecDepth 20000 in
theorem ggX6_ground_X6_requireCell : GoodIn wsX6_ground wsX6_requireCell := goodIn_ca (goodIn_r _ [5, 6, 7, 8, 9, 4, 10] (by decide +kernel) (by decide +kernel)) (goodIn_sub (fun _ h => List.mem_cons_of_mem _ (List.mem_append_left _ (List.mem_append_right _ h))) (by decide +kernel))
set_option maxRecDepth 20000 in
theorem gX6_ground_X6_requireCell : GoodIn wsX6_ground (va_wsS RX6 77 yX6_requireCell wsX6_requireCell) := goodIn_app (goodIn_of _ (by decide +kernel)) ggX6_ground_X6_requireCell
set_option maxRecDepth 20000 in
theorem ggX6_ground_X3_at : GoodIn wsX6_ground wsX3_at := goodIn_ca (goodIn_r _ [15, 16, 9, 4, 10, 31] (by decide +kernel) (by decide +kernel)) (goodIn_sub (fun _ h => List.mem_cons_of_mem _ (List.mem_append_right _ h)) (by decide +kernel))
set_option maxRecDepth 20000 in
theorem gX6_ground_X3_at : GoodIn wsX6_ground (wsV RX6 80 RX3 yX3_at wsX3_at) := goodIn_app (goodIn_of _ (by decide +kernel)) ggX6_ground_X3_at
set_option maxRecDepth 20000 in
theorem ggX6_addUnit_X6_requirePlayer : GoodIn wsX6_addUnit wsX6_requirePlayer := goodIn_ca (goodIn_r _ [12, 13, 14] (by decide +kernel) (by decide +kernel)) (goodIn_sub (fun _ h => List.mem_cons_of_mem _ (List.mem_append_left _ (List.mem_append_right _ h))) (by decide +kernel))
set_option maxRecDepth 20000 in
theorem gX6_addUnit_X6_requirePlayer : GoodIn wsX6_addUnit (va_wsS RX6 84 yX6_requirePlayer wsX6_requirePlayer) := goodIn_app (goodIn_of _ (by decide +kernel)) ggX6_addUnit_X6_requirePlayer
set_option maxRecDepth 20000 in
theorem ggX6_addUnit_X6_requireCell : GoodIn wsX6_addUnit wsX6_requireCell := goodIn_ca (goodIn_r _ [17, 13, 14, 18, 19, 11, 20] (by decide +kernel) (by decide +kernel)) (goodIn_sub (fun _ h => List.mem_cons_of_mem _ (List.mem_append_left _ (List.mem_append_right _ h))) (by decide +kernel))
set_option maxRecDepth 20000 in
theorem gX6_addUnit_X6_requireCell : GoodIn wsX6_addUnit (va_wsS RX6 77 yX6_requireCell wsX6_requireCell) := goodIn_app (goodIn_of _ (by decide +kernel)) ggX6_addUnit_X6_requireCell
set_option maxRecDepth 20000 in
theorem ggX6_addUnit_J0_indexOf_0f7a4 : GoodIn wsX6_addUnit wsJ0_indexOf_0f7a4 := goodIn_r _ [25, 26, 27, 28, 24, 29, 30, 31, 32, 33, 34, 35, 36, 37, 38, 39, 40, 41, 42, 43, 44, 45, 46, 47, 48, 49, 50, 51, 52, 53, 54, 55, 56, 57, 58, 59, 60, 61, 62, 63, 64, 65, 66, 67, 68, 69, 70, 71, 72, 73, 74, 75, 76, 77, 78, 79, 80, 81, 82, 83, 84, 85, 86, 87, 88, 89, 90, 91, 92, 93, 94, 95, 96, 97, 98, 99, 100, 101, 102, 103, 104, 105, 106, 107, 108, 109, 149, 150, 151, 152] (by decide +kernel) (by decide +kernel)
set_option maxRecDepth 20000 in
theorem gX6_addUnit_J0_indexOf_0f7a4 : GoodIn wsX6_addUnit (wsV RX6 89 RJ0 yJ0_indexOf_0f7a4 wsJ0_indexOf_0f7a4) := goodIn_app (goodIn_of _ (by decide +kernel)) ggX6_addUnit_J0_indexOf_0f7a4
set_option maxRecDepth 20000 in
theorem ggX6_addUnit_X3_at : GoodIn wsX6_addUnit wsX3_at := goodIn_ca (goodIn_r _ [114, 115, 19, 11, 20, 153] (by decide +kernel) (by decide +kernel)) (goodIn_sub (fun _ h => List.mem_cons_of_mem _ (List.mem_append_right _ h)) (by decide +kernel))
set_option maxRecDepth 20000 in
theorem gX6_addUnit_X3_at : GoodIn wsX6_addUnit (wsV RX6 80 RX3 yX3_at wsX3_at) := goodIn_app (goodIn_of _ (by decide +kernel)) ggX6_addUnit_X3_at
set_option maxRecDepth 20000 in
theorem ggX6_addUnit_X5_on : GoodIn wsX6_addUnit wsX5_on := goodIn_ca (goodIn_r _ [120, 121, 122, 144, 145, 146, 147, 148] (by decide +kernel) (by decide +kernel)) (goodIn_sub (fun _ h => List.mem_cons_of_mem _ (List.mem_append_right _ h)) (by decide +kernel))
set_option maxRecDepth 20000 in
theorem gX6_addUnit_X5_on : GoodIn wsX6_addUnit (wsV RX6 100 RX5 yX5_on wsX5_on) := goodIn_app (goodIn_of _ (by decide +kernel)) ggX6_addUnit_X5_on
set_option maxRecDepth 20000 in
theorem ggX6_addUnit_X5_put : GoodIn wsX6_addUnit wsX5_put := goodIn_ca (goodIn_r _ [126, 121, 127, 128, 129, 122, 144, 145, 146, 147, 148] (by decide +kernel) (by decide +kernel)) (goodIn_sub (fun _ h => List.mem_cons_of_mem _ (List.mem_append_right _ h)) (by decide +kernel))
set_option maxRecDepth 20000 in
theorem gX6_addUnit_X5_put : GoodIn wsX6_addUnit (wsV RX6 113 RX5 yX5_put wsX5_put) := goodIn_app (goodIn_of _ (by decide +kernel)) ggX6_addUnit_X5_put
set_option maxRecDepth 20000 in
theorem ggX6_order_X6_requireUnit : GoodIn wsX6_order wsX6_requireUnit := goodIn_ca (goodIn_r _ [12, 13, 14, 5, 15, 16, 17, 18, 19, 20, 50, 51, 52, 53, 54, 55, 56, 57, 58, 59, 60, 61, 62, 63, 64, 65, 66, 67, 68] (by decide +kernel) (by decide +kernel)) (goodIn_sub (fun _ h => List.mem_cons_of_mem _ (List.mem_append_left _ (List.mem_append_right _ h))) (by decide +kernel))
set_option maxRecDepth 20000 in
theorem gX6_order_X6_requireUnit : GoodIn wsX6_order (wsV RX6 117 RX6 yX6_requireUnit wsX6_requireUnit) := goodIn_app (goodIn_of _ (by decide +kernel)) ggX6_order_X6_requireUnit
set_option maxRecDepth 20000 in
theorem ggX6_order_X5_lives : GoodIn wsX6_order wsX5_lives := goodIn_ca (goodIn_r _ [24, 25, 26, 27, 18, 28, 20, 29, 64, 65, 66, 67, 68] (by decide +kernel) (by decide +kernel)) (goodIn_sub (fun _ h => List.mem_cons_of_mem _ (List.mem_append_right _ h)) (by decide +kernel))
set_option maxRecDepth 20000 in
theorem gX6_order_X5_lives : GoodIn wsX6_order (wsV RX6 122 RX5 yX5_lives wsX5_lives) := goodIn_app (goodIn_of _ (by decide +kernel)) ggX6_order_X5_lives
set_option maxRecDepth 20000 in
theorem ggX6_order_X4_givenTo : GoodIn wsX6_order wsX4_givenTo := goodIn_ca (goodIn_r _ [34, 35, 69, 70] (by decide +kernel) (by decide +kernel)) (goodIn_sub (fun _ h => List.mem_cons_of_mem _ (List.mem_append_right _ h)) (by decide +kernel))
set_option maxRecDepth 20000 in
theorem gX6_order_X4_givenTo : GoodIn wsX6_order (wsV RX6 126 RX4 yX4_givenTo wsX4_givenTo) := goodIn_app (goodIn_of _ (by decide +kernel)) ggX6_order_X4_givenTo
set_option maxRecDepth 20000 in
theorem ggX6_order_X5_steps : GoodIn wsX6_order wsX5_steps := goodIn_ca (goodIn_r _ [39, 20, 40, 64, 65, 66, 67, 68] (by decide +kernel) (by decide +kernel)) (goodIn_sub (fun _ h => List.mem_cons_of_mem _ (List.mem_append_right _ h)) (by decide +kernel))
set_option maxRecDepth 20000 in
theorem gX6_order_X5_steps : GoodIn wsX6_order (wsV RX6 129 RX5 yX5_steps wsX5_steps) := goodIn_app (goodIn_of _ (by decide +kernel)) ggX6_order_X5_steps
set_option maxRecDepth 20000 in
theorem ggX6_order_X4_give : GoodIn wsX6_order wsX4_give := goodIn_ca (goodIn_r _ [44, 45, 35, 46, 31, 32, 33, 34, 47, 48, 49, 69, 70] (by decide +kernel) (by decide +kernel)) (goodIn_sub (fun _ h => List.mem_cons_of_mem _ (List.mem_append_right _ h)) (by decide +kernel))
set_option maxRecDepth 20000 in
theorem gX6_order_X4_give : GoodIn wsX6_order (wsV RX6 134 RX4 yX4_give wsX4_give) := goodIn_app (goodIn_of _ (by decide +kernel)) ggX6_order_X4_give
set_option maxRecDepth 20000 in
theorem ggX6_turn_X1_playTurn : GoodIn wsX6_turn wsX1_playTurn := goodIn_ca (goodIn_r _ [10, 11, 12, 13, 9, 14, 15, 16, 17, 18, 19, 20, 21, 22, 23, 24, 25, 26, 27, 28, 29, 30, 31, 32, 33, 34, 35, 36, 37, 38, 39, 40, 41, 42, 43, 44, 45, 46, 47, 48, 49, 50, 51, 52, 53, 54, 55, 56, 57, 58, 59, 60, 61, 62, 63, 64, 65, 66, 67, 68, 69, 70, 71, 72, 73, 74, 75, 76, 77, 78, 79, 80, 81, 82, 83, 84, 85, 86, 87, 88, 89, 90, 91, 92, 93, 94, 95, 96, 97, 98, 99, 100, 101, 102, 103, 104, 105, 106, 107, 108, 109, 110, 111, 112, 113, 114, 115, 116, 117, 118, 119, 120, 121, 215, 216, 217, 218, 219, 220, 221, 222, 223, 224, 225, 226] (by decide +kernel) (by decide +kernel)) (goodIn_sub (fun _ h => List.mem_cons_of_mem _ (List.mem_append_left _ (List.mem_append_right _ h))) (by decide +kernel))
set_option maxRecDepth 20000 in
theorem gX6_turn_X1_playTurn : GoodIn wsX6_turn (wsV RX6 139 RX1 yX1_playTurn wsX1_playTurn) := goodIn_app (goodIn_of _ (by decide +kernel)) ggX6_turn_X1_playTurn
set_option maxRecDepth 20000 in
theorem ggX6_turn_X4_startTurn : GoodIn wsX6_turn wsX4_startTurn := goodIn_r _ [125, 126, 127, 107, 108, 109, 224, 225] (by decide +kernel) (by decide +kernel)
set_option maxRecDepth 20000 in
theorem gX6_turn_X4_startTurn : GoodIn wsX6_turn (wsV RX6 143 RX4 yX4_startTurn wsX4_startTurn) := goodIn_app (goodIn_of _ (by decide +kernel)) ggX6_turn_X4_startTurn
set_option maxRecDepth 20000 in
theorem ggX6_turn_X6_watch : GoodIn wsX6_turn wsX6_watch := goodIn_ca (goodIn_ca (goodIn_r _ [131, 4, 132, 3, 133, 134, 19, 20, 21, 22, 23, 24, 135, 64, 65, 66, 67, 136, 137, 138, 9, 139, 15, 63, 140, 141, 142, 143, 17, 18, 144, 145, 146, 147, 76, 148, 40, 41, 37, 42, 43, 44, 45, 46, 149, 150, 151, 152, 153, 154, 155, 156, 157, 158, 159, 160, 161, 162, 163, 39, 164, 165, 166, 167, 168, 169, 170, 171, 172, 173, 174, 175, 176, 177, 178, 179, 180, 181, 182, 183, 184, 185, 186, 187, 205, 206, 207, 208, 209, 210, 211, 212, 213, 214, 215, 216, 217, 218, 219, 220, 221, 222, 223, 226, 227, 228] (by decide +kernel) (by decide +kernel)) (goodIn_sub (fun _ h => List.mem_cons_of_mem _ (List.mem_append_left _ (List.mem_append_right _ h))) (by decide +kernel))) (goodIn_sub (fun _ h => List.mem_cons_of_mem _ (List.mem_append_right _ h)) (by decide +kernel))
set_option maxRecDepth 20000 in
theorem gX6_turn_X6_watch : GoodIn wsX6_turn (wsV RX6 146 RX6 yX6_watch wsX6_watch) := goodIn_app (goodIn_of _ (by decide +kernel)) ggX6_turn_X6_watch
set_option maxRecDepth 20000 in
theorem ggX6_turn_X6_hearAll : GoodIn wsX6_turn wsX6_hearAll := goodIn_ca (goodIn_r _ [191, 192, 193, 194, 45, 195, 196, 197, 198, 199, 200, 4, 133, 132, 3, 135, 64, 65, 21, 66, 23, 67, 201, 202, 203, 170, 204, 172, 173, 177, 178, 179, 180, 181, 134, 19, 20, 22, 24, 167, 168, 169, 171, 174, 175, 176, 182, 183, 184, 185, 186, 187, 205, 206, 207, 208, 209, 210, 211, 212, 213, 214, 215, 216, 217, 218, 219, 220, 221, 222, 223, 227, 228] (by decide +kernel) (by decide +kernel)) (goodIn_sub (fun _ h => List.mem_cons_of_mem _ (List.mem_append_left _ (List.mem_append_right _ h))) (by decide +kernel))
set_option maxRecDepth 20000 in
theorem gX6_turn_X6_hearAll : GoodIn wsX6_turn (wsV RX6 149 RX6 yX6_hearAll wsX6_hearAll) := goodIn_app (goodIn_of _ (by decide +kernel)) ggX6_turn_X6_hearAll
set_option maxRecDepth 20000 in
theorem ggX6_cellOf_X6_requireUnit : GoodIn wsX6_cellOf wsX6_requireUnit := goodIn_ca (goodIn_r _ [6, 7, 8, 1, 9, 10, 11, 12, 13, 14, 20, 21, 22, 23, 24, 25, 26, 27, 28, 29, 30, 31, 32, 33, 34, 35, 36, 37, 38] (by decide +kernel) (by decide +kernel)) (goodIn_sub (fun _ h => List.mem_cons_of_mem _ (List.mem_append_left _ (List.mem_append_right _ h))) (by decide +kernel))
set_option maxRecDepth 20000 in
theorem gX6_cellOf_X6_requireUnit : GoodIn wsX6_cellOf (wsV RX6 117 RX6 yX6_requireUnit wsX6_requireUnit) := goodIn_app (goodIn_of _ (by decide +kernel)) ggX6_cellOf_X6_requireUnit
set_option maxRecDepth 20000 in
theorem ggX6_cellOf_X5_place : GoodIn wsX6_cellOf wsX5_place := goodIn_ca (goodIn_r _ [18, 14, 19, 34, 35, 36, 37, 38] (by decide +kernel) (by decide +kernel)) (goodIn_sub (fun _ h => List.mem_cons_of_mem _ (List.mem_append_right _ h)) (by decide +kernel))
set_option maxRecDepth 20000 in
theorem gX6_cellOf_X5_place : GoodIn wsX6_cellOf (wsV RX6 152 RX5 yX5_place wsX5_place) := goodIn_app (goodIn_of _ (by decide +kernel)) ggX6_cellOf_X5_place
set_option maxRecDepth 20000 in
theorem ggX6_unitOn_X6_requireCell : GoodIn wsX6_unitOn wsX6_requireCell := goodIn_ca (goodIn_r _ [5, 6, 7, 8, 9, 4, 10] (by decide +kernel) (by decide +kernel)) (goodIn_sub (fun _ h => List.mem_cons_of_mem _ (List.mem_append_left _ (List.mem_append_right _ h))) (by decide +kernel))
set_option maxRecDepth 20000 in
theorem gX6_unitOn_X6_requireCell : GoodIn wsX6_unitOn (va_wsS RX6 77 yX6_requireCell wsX6_requireCell) := goodIn_app (goodIn_of _ (by decide +kernel)) ggX6_unitOn_X6_requireCell
set_option maxRecDepth 20000 in
theorem ggX6_unitOn_X5_on : GoodIn wsX6_unitOn wsX5_on := goodIn_ca (goodIn_r _ [15, 16, 17, 32, 33, 34, 35, 36] (by decide +kernel) (by decide +kernel)) (goodIn_sub (fun _ h => List.mem_cons_of_mem _ (List.mem_append_right _ h)) (by decide +kernel))
set_option maxRecDepth 20000 in
theorem gX6_unitOn_X5_on : GoodIn wsX6_unitOn (wsV RX6 100 RX5 yX5_on wsX5_on) := goodIn_app (goodIn_of _ (by decide +kernel)) ggX6_unitOn_X5_on
set_option maxRecDepth 20000 in
theorem ggX6_sees_X6_requireUnit : GoodIn wsX6_sees wsX6_requireUnit := goodIn_ca (goodIn_r _ [6, 7, 8, 1, 9, 10, 11, 12, 13, 14, 63, 64, 65, 66, 67, 68, 69, 70, 71, 72, 73, 74, 75, 76, 77, 78, 79, 80, 81] (by decide +kernel) (by decide +kernel)) (goodIn_sub (fun _ h => List.mem_cons_of_mem _ (List.mem_append_left _ (List.mem_append_left _ (List.mem_append_right _ h)))) (by decide +kernel))
set_option maxRecDepth 20000 in
theorem gX6_sees_X6_requireUnit : GoodIn wsX6_sees (wsV RX6 117 RX6 yX6_requireUnit wsX6_requireUnit) := goodIn_app (goodIn_of _ (by decide +kernel)) ggX6_sees_X6_requireUnit
set_option maxRecDepth 20000 in
theorem ggX6_sees_X6_requireCell : GoodIn wsX6_sees wsX6_requireCell := goodIn_ca (goodIn_r _ [17, 7, 8, 18, 19, 5, 20] (by decide +kernel) (by decide +kernel)) (goodIn_sub (fun _ h => List.mem_cons_of_mem _ (List.mem_append_left _ (List.mem_append_left _ (List.mem_append_right _ h)))) (by decide +kernel))
set_option maxRecDepth 20000 in
theorem gX6_sees_X6_requireCell : GoodIn wsX6_sees (va_wsS RX6 77 yX6_requireCell wsX6_requireCell) := goodIn_app (goodIn_of _ (by decide +kernel)) ggX6_sees_X6_requireCell
set_option maxRecDepth 20000 in
theorem ggX6_sees_X1_unitSpots : GoodIn wsX6_sees wsX1_unitSpots := goodIn_ca (goodIn_ca (goodIn_r _ [25, 26, 27, 28, 29, 30, 12, 31, 14, 32, 33, 34, 35, 36, 37, 38, 39, 40, 41, 42, 43, 19, 5, 20, 44, 45, 46, 47, 48, 49, 50, 51, 52, 53, 54, 55, 56, 57, 58, 59, 60, 61, 62, 73, 74, 75, 76, 77, 78, 79, 80, 81, 82] (by decide +kernel) (by decide +kernel)) (goodIn_sub (fun _ h => List.mem_cons_of_mem _ (List.mem_append_left _ (List.mem_append_right _ h))) (by decide +kernel))) (goodIn_sub (fun _ h => List.mem_cons_of_mem _ (List.mem_append_right _ h)) (by decide +kernel))
set_option maxRecDepth 20000 in
theorem gX6_sees_X1_unitSpots : GoodIn wsX6_sees (wsV RX6 155 RX1 yX1_unitSpots wsX1_unitSpots) := goodIn_app (goodIn_of _ (by decide +kernel)) ggX6_sees_X1_unitSpots
set_option maxRecDepth 20000 in
theorem ggX6_seen_X6_requirePlayer : GoodIn wsX6_seen wsX6_requirePlayer := goodIn_ca (goodIn_r _ [5, 6, 7] (by decide +kernel) (by decide +kernel)) (goodIn_sub (fun _ h => List.mem_cons_of_mem _ (List.mem_append_left _ (List.mem_append_left _ (List.mem_append_right _ h)))) (by decide +kernel))
set_option maxRecDepth 20000 in
theorem gX6_seen_X6_requirePlayer : GoodIn wsX6_seen (va_wsS RX6 84 yX6_requirePlayer wsX6_requirePlayer) := goodIn_app (goodIn_of _ (by decide +kernel)) ggX6_seen_X6_requirePlayer
set_option maxRecDepth 20000 in
theorem ggX6_seen_X1_playerSpots : GoodIn wsX6_seen wsX1_playerSpots := goodIn_ca (goodIn_ca (goodIn_r _ [12, 13, 14, 15, 16, 17, 18, 19, 20, 21, 22, 23, 11, 24, 25, 26, 27, 28, 29, 30, 31, 32, 33, 34, 35, 36, 37, 38, 39, 40, 41, 42, 4, 43, 44, 45, 46, 47, 48, 49, 50, 51, 52, 53, 54, 55, 56, 57, 58, 59, 60, 61, 62, 73, 74, 75, 76, 77, 78, 79, 80, 81, 82] (by decide +kernel) (by decide +kernel)) (goodIn_sub (fun _ h => List.mem_cons_of_mem _ (List.mem_append_left _ (List.mem_append_right _ h))) (by decide +kernel))) (goodIn_sub (fun _ h => List.mem_cons_of_mem _ (List.mem_append_right _ h)) (by decide +kernel))
set_option maxRecDepth 20000 in
theorem gX6_seen_X1_playerSpots : GoodIn wsX6_seen (wsV RX6 159 RX1 yX1_playerSpots wsX1_playerSpots) := goodIn_app (goodIn_of _ (by decide +kernel)) ggX6_seen_X1_playerSpots
set_option maxRecDepth 20000 in
theorem ggX6_setTreaty_X6_requirePlayer : GoodIn wsX6_setTreaty wsX6_requirePlayer := goodIn_ca (goodIn_r _ [8, 9, 10] (by decide +kernel) (by decide +kernel)) (goodIn_sub (fun _ h => List.mem_cons_of_mem _ (List.mem_append_right _ h)) (by decide +kernel))
set_option maxRecDepth 20000 in
theorem gX6_setTreaty_X6_requirePlayer : GoodIn wsX6_setTreaty (va_wsS RX6 84 yX6_requirePlayer wsX6_requirePlayer) := goodIn_app (goodIn_of _ (by decide +kernel)) ggX6_setTreaty_X6_requirePlayer
set_option maxRecDepth 20000 in
theorem ggX6_setTreaty_X6_hasTreaty : GoodIn wsX6_setTreaty wsX6_hasTreaty := goodIn_ca (goodIn_r _ [14, 3, 26, 27, 28, 29, 30, 31, 32, 33, 34, 35] (by decide +kernel) (by decide +kernel)) (goodIn_sub (fun _ h => List.mem_cons_of_mem _ (List.mem_append_left _ (List.mem_append_right _ h))) (by decide +kernel))
set_option maxRecDepth 20000 in
theorem gX6_setTreaty_X6_hasTreaty : GoodIn wsX6_setTreaty (wsV RX6 164 RX6 yX6_hasTreaty wsX6_hasTreaty) := goodIn_app (goodIn_of _ (by decide +kernel)) ggX6_setTreaty_X6_hasTreaty
set_option maxRecDepth 20000 in
theorem ggX6_setTreaty_X0_endTreaty : GoodIn wsX6_setTreaty wsX0_endTreaty := goodIn_r _ [19, 20, 21, 22, 23, 18, 24, 25, 36, 37, 38, 39, 40, 41, 42] (by decide +kernel) (by decide +kernel)
set_option maxRecDepth 20000 in
theorem gX6_setTreaty_X0_endTreaty : GoodIn wsX6_setTreaty (wsV RX6 167 RX0 yX0_endTreaty wsX0_endTreaty) := goodIn_app (goodIn_of _ (by decide +kernel)) ggX6_setTreaty_X0_endTreaty
set_option maxRecDepth 20000 in
theorem ggX6_sightings_X6_requirePlayer : GoodIn wsX6_sightings wsX6_requirePlayer := goodIn_ca (goodIn_r _ [5, 6, 7] (by decide +kernel) (by decide +kernel)) (goodIn_sub (fun _ h => List.mem_cons_of_mem _ (List.mem_append_right _ h)) (by decide +kernel))
set_option maxRecDepth 20000 in
theorem gX6_sightings_X6_requirePlayer : GoodIn wsX6_sightings (va_wsS RX6 84 yX6_requirePlayer wsX6_requirePlayer) := goodIn_app (goodIn_of _ (by decide +kernel)) ggX6_sightings_X6_requirePlayer
set_option maxRecDepth 20000 in
theorem ggX6_sighting_X6_requirePlayer : GoodIn wsX6_sighting wsX6_requirePlayer := goodIn_ca (goodIn_r _ [9, 1, 2] (by decide +kernel) (by decide +kernel)) (goodIn_sub (fun _ h => List.mem_cons_of_mem _ (List.mem_append_left _ (List.mem_append_left _ (List.mem_append_right _ h)))) (by decide +kernel))
set_option maxRecDepth 20000 in
theorem gX6_sighting_X6_requirePlayer : GoodIn wsX6_sighting (va_wsS RX6 84 yX6_requirePlayer wsX6_requirePlayer) := goodIn_app (goodIn_of _ (by decide +kernel)) ggX6_sighting_X6_requirePlayer
set_option maxRecDepth 20000 in
theorem ggX6_sighting_X2_at : GoodIn wsX6_sighting wsX2_at := goodIn_ca (goodIn_r _ [14, 15, 16, 37, 38] (by decide +kernel) (by decide +kernel)) (goodIn_sub (fun _ h => List.mem_cons_of_mem _ (List.mem_append_right _ h)) (by decide +kernel))
set_option maxRecDepth 20000 in
theorem gX6_sighting_X2_at : GoodIn wsX6_sighting (wsV RX6 176 RX2 yX2_at wsX2_at) := goodIn_app (goodIn_of _ (by decide +kernel)) ggX6_sighting_X2_at
set_option maxRecDepth 20000 in
theorem ggX6_sighting_X6_turnOf : GoodIn wsX6_sighting wsX6_turnOf := goodIn_r _ [19, 20] (by decide +kernel) (by decide +kernel)
set_option maxRecDepth 20000 in
theorem gX6_sighting_X6_turnOf : GoodIn wsX6_sighting (va_wsS RX6 178 yX6_turnOf wsX6_turnOf) := goodIn_app (goodIn_of _ (by decide +kernel)) ggX6_sighting_X6_turnOf
set_option maxRecDepth 20000 in
theorem ggX6_sighting_X6_placeOf : GoodIn wsX6_sighting wsX6_placeOf := goodIn_r _ [23, 20] (by decide +kernel) (by decide +kernel)
set_option maxRecDepth 20000 in
theorem gX6_sighting_X6_placeOf : GoodIn wsX6_sighting (va_wsS RX6 181 yX6_placeOf wsX6_placeOf) := goodIn_app (goodIn_of _ (by decide +kernel)) ggX6_sighting_X6_placeOf
set_option maxRecDepth 20000 in
theorem ggX6_sighting_X6_unitOf : GoodIn wsX6_sighting wsX6_unitOf := goodIn_r _ [26] (by decide +kernel) (by decide +kernel)
set_option maxRecDepth 20000 in
theorem gX6_sighting_X6_unitOf : GoodIn wsX6_sighting (va_wsS RX6 184 yX6_unitOf wsX6_unitOf) := goodIn_app (goodIn_of _ (by decide +kernel)) ggX6_sighting_X6_unitOf
set_option maxRecDepth 20000 in
theorem ggX6_age_X6_requirePlayer : GoodIn wsX6_age wsX6_requirePlayer := goodIn_ca (goodIn_r _ [8, 9, 10] (by decide +kernel) (by decide +kernel)) (goodIn_sub (fun _ h => List.mem_cons_of_mem _ (List.mem_append_left _ (List.mem_append_right _ h))) (by decide +kernel))
set_option maxRecDepth 20000 in
theorem gX6_age_X6_requirePlayer : GoodIn wsX6_age (va_wsS RX6 84 yX6_requirePlayer wsX6_requirePlayer) := goodIn_app (goodIn_of _ (by decide +kernel)) ggX6_age_X6_requirePlayer
set_option maxRecDepth 20000 in
theorem ggX6_age_X6_requireCell : GoodIn wsX6_age wsX6_requireCell := goodIn_ca (goodIn_r _ [13, 9, 10, 14, 15, 7, 16] (by decide +kernel) (by decide +kernel)) (goodIn_sub (fun _ h => List.mem_cons_of_mem _ (List.mem_append_left _ (List.mem_append_right _ h))) (by decide +kernel))
set_option maxRecDepth 20000 in
theorem gX6_age_X6_requireCell : GoodIn wsX6_age (va_wsS RX6 77 yX6_requireCell wsX6_requireCell) := goodIn_app (goodIn_of _ (by decide +kernel)) ggX6_age_X6_requireCell
set_option maxRecDepth 20000 in
theorem ggX6_age_X2_latestOnCell : GoodIn wsX6_age wsX2_latestOnCell := goodIn_ca (goodIn_r _ [21, 22, 23, 24, 7, 25, 26, 40, 41] (by decide +kernel) (by decide +kernel)) (goodIn_sub (fun _ h => List.mem_cons_of_mem _ (List.mem_append_right _ h)) (by decide +kernel))
set_option maxRecDepth 20000 in
theorem gX6_age_X2_latestOnCell : GoodIn wsX6_age (wsV RX6 189 RX2 yX2_latestOnCell wsX2_latestOnCell) := goodIn_app (goodIn_of _ (by decide +kernel)) ggX6_age_X2_latestOnCell
set_option maxRecDepth 20000 in
theorem ggX6_age_X6_turnOf : GoodIn wsX6_age wsX6_turnOf := goodIn_r _ [29, 26] (by decide +kernel) (by decide +kernel)
set_option maxRecDepth 20000 in
theorem gX6_age_X6_turnOf : GoodIn wsX6_age (va_wsS RX6 178 yX6_turnOf wsX6_turnOf) := goodIn_app (goodIn_of _ (by decide +kernel)) ggX6_age_X6_turnOf
set_option maxRecDepth 20000 in
theorem ggX6_lastSeen_X6_requirePlayer : GoodIn wsX6_lastSeen wsX6_requirePlayer := goodIn_ca (goodIn_r _ [7, 8, 9] (by decide +kernel) (by decide +kernel)) (goodIn_sub (fun _ h => List.mem_cons_of_mem _ (List.mem_append_left _ (List.mem_append_right _ h))) (by decide +kernel))
set_option maxRecDepth 20000 in
theorem gX6_lastSeen_X6_requirePlayer : GoodIn wsX6_lastSeen (va_wsS RX6 84 yX6_requirePlayer wsX6_requirePlayer) := goodIn_app (goodIn_of _ (by decide +kernel)) ggX6_lastSeen_X6_requirePlayer
set_option maxRecDepth 20000 in
theorem ggX6_lastSeen_X6_requireUnit : GoodIn wsX6_lastSeen wsX6_requireUnit := goodIn_ca (goodIn_r _ [13, 8, 9, 14, 15, 16, 17, 18, 19, 20, 34, 35, 36, 37, 38, 39, 40, 41, 42, 43, 44, 45, 46, 47, 48, 49, 50, 51, 52] (by decide +kernel) (by decide +kernel)) (goodIn_sub (fun _ h => List.mem_cons_of_mem _ (List.mem_append_left _ (List.mem_append_right _ h))) (by decide +kernel))
set_option maxRecDepth 20000 in
theorem gX6_lastSeen_X6_requireUnit : GoodIn wsX6_lastSeen (wsV RX6 117 RX6 yX6_requireUnit wsX6_requireUnit) := goodIn_app (goodIn_of _ (by decide +kernel)) ggX6_lastSeen_X6_requireUnit
set_option maxRecDepth 20000 in
theorem ggX6_lastSeen_X2_latestOfUnit : GoodIn wsX6_lastSeen wsX2_latestOfUnit := goodIn_ca (goodIn_r _ [25, 26, 27, 28, 6, 29, 53, 54] (by decide +kernel) (by decide +kernel)) (goodIn_sub (fun _ h => List.mem_cons_of_mem _ (List.mem_append_right _ h)) (by decide +kernel))
set_option maxRecDepth 20000 in
theorem gX6_lastSeen_X2_latestOfUnit : GoodIn wsX6_lastSeen (wsV RX6 197 RX2 yX2_latestOfUnit wsX2_latestOfUnit) := goodIn_app (goodIn_of _ (by decide +kernel)) ggX6_lastSeen_X2_latestOfUnit
set_option maxRecDepth 20000 in
theorem ggX6_lastSeen_X6_placeOf : GoodIn wsX6_lastSeen wsX6_placeOf := goodIn_r _ [32, 33] (by decide +kernel) (by decide +kernel)
set_option maxRecDepth 20000 in
theorem gX6_lastSeen_X6_placeOf : GoodIn wsX6_lastSeen (va_wsS RX6 181 yX6_placeOf wsX6_placeOf) := goodIn_app (goodIn_of _ (by decide +kernel)) ggX6_lastSeen_X6_placeOf
set_option maxRecDepth 20000 in
theorem ggX6_save_X0_take : GoodIn wsX6_save wsX0_take := goodIn_ca (goodIn_r _ [9, 10, 11, 12, 13, 14, 15, 16, 17, 18, 19, 20, 21, 22, 23, 24, 25, 26, 61, 62, 54, 55, 56, 57, 58, 59, 60] (by decide +kernel) (by decide +kernel)) (goodIn_sub (fun _ h => List.mem_cons_of_mem _ (List.mem_append_right _ h)) (by decide +kernel))
set_option maxRecDepth 20000 in
theorem gX6_save_X0_take : GoodIn wsX6_save (wsV RX6 202 RX0 yX0_take wsX0_take) := goodIn_app (goodIn_of _ (by decide +kernel)) ggX6_save_X0_take
set_option maxRecDepth 20000 in
theorem ggX6_save_X0_keepParity : GoodIn wsX6_save wsX0_keepParity := goodIn_ca (goodIn_r _ [30, 31, 32, 33, 34, 8, 35, 14, 15, 36, 37, 38, 39, 40, 41, 42, 43, 18, 54, 55, 56, 57, 58, 59, 60] (by decide +kernel) (by decide +kernel)) (goodIn_sub (fun _ h => List.mem_cons_of_mem _ (List.mem_append_right _ h)) (by decide +kernel))
set_option maxRecDepth 20000 in
theorem gX6_save_X0_keepParity : GoodIn wsX6_save (wsV RX6 209 RX0 yX0_keepParity wsX0_keepParity) := goodIn_app (goodIn_of _ (by decide +kernel)) ggX6_save_X0_keepParity
set_option maxRecDepth 20000 in
theorem ggX6_blocks_X6_requirePlayer : GoodIn wsX6_blocks wsX6_requirePlayer := goodIn_ca (goodIn_r _ [5, 6, 7] (by decide +kernel) (by decide +kernel)) (goodIn_sub (fun _ h => List.mem_cons_of_mem _ (List.mem_append_left _ (List.mem_append_right _ h))) (by decide +kernel))
set_option maxRecDepth 20000 in
theorem gX6_blocks_X6_requirePlayer : GoodIn wsX6_blocks (va_wsS RX6 84 yX6_requirePlayer wsX6_requirePlayer) := goodIn_app (goodIn_of _ (by decide +kernel)) ggX6_blocks_X6_requirePlayer
set_option maxRecDepth 20000 in
theorem ggX6_blocks_X6_requireSave : GoodIn wsX6_blocks wsX6_requireSave := goodIn_ca (goodIn_r _ [11, 12, 13, 14, 21, 22, 23, 24, 25, 26, 27, 28, 29, 30] (by decide +kernel) (by decide +kernel)) (goodIn_sub (fun _ h => List.mem_cons_of_mem _ (List.mem_append_right _ h)) (by decide +kernel))
set_option maxRecDepth 20000 in
theorem gX6_blocks_X6_requireSave : GoodIn wsX6_blocks (wsV RX6 217 RX6 yX6_requireSave wsX6_requireSave) := goodIn_app (goodIn_of _ (by decide +kernel)) ggX6_blocks_X6_requireSave
set_option maxRecDepth 20000 in
theorem ggX6_blocks_X0_blockCount : GoodIn wsX6_blocks wsX0_blockCount := goodIn_r _ [19, 20, 31, 32, 33, 34, 35, 36, 37] (by decide +kernel) (by decide +kernel)
set_option maxRecDepth 20000 in
theorem gX6_blocks_X0_blockCount : GoodIn wsX6_blocks (wsV RX6 220 RX0 yX0_blockCount wsX0_blockCount) := goodIn_app (goodIn_of _ (by decide +kernel)) ggX6_blocks_X0_blockCount
set_option maxRecDepth 20000 in
theorem ggX6_breakBlock_X6_requirePlayer : GoodIn wsX6_breakBlock wsX6_requirePlayer := goodIn_ca (goodIn_r _ [7, 8, 9] (by decide +kernel) (by decide +kernel)) (goodIn_sub (fun _ h => List.mem_cons_of_mem _ (List.mem_append_left _ (List.mem_append_right _ h))) (by decide +kernel))
set_option maxRecDepth 20000 in
theorem gX6_breakBlock_X6_requirePlayer : GoodIn wsX6_breakBlock (va_wsS RX6 84 yX6_requirePlayer wsX6_requirePlayer) := goodIn_app (goodIn_of _ (by decide +kernel)) ggX6_breakBlock_X6_requirePlayer
set_option maxRecDepth 20000 in
theorem ggX6_breakBlock_X6_requireSave : GoodIn wsX6_breakBlock wsX6_requireSave := goodIn_ca (goodIn_r _ [13, 1, 2, 14, 40, 41, 42, 43, 44, 45, 46, 47, 48, 49] (by decide +kernel) (by decide +kernel)) (goodIn_sub (fun _ h => List.mem_cons_of_mem _ (List.mem_append_left _ (List.mem_append_left _ (List.mem_append_right _ h)))) (by decide +kernel))
set_option maxRecDepth 20000 in
theorem gX6_breakBlock_X6_requireSave : GoodIn wsX6_breakBlock (wsV RX6 217 RX6 yX6_requireSave wsX6_requireSave) := goodIn_app (goodIn_of _ (by decide +kernel)) ggX6_breakBlock_X6_requireSave
set_option maxRecDepth 20000 in
theorem ggX6_breakBlock_X0_blockCount : GoodIn wsX6_breakBlock wsX0_blockCount := goodIn_r _ [19, 20, 50, 51, 52, 53, 54, 55, 56] (by decide +kernel) (by decide +kernel)
set_option maxRecDepth 20000 in
theorem gX6_breakBlock_X0_blockCount : GoodIn wsX6_breakBlock (wsV RX6 220 RX0 yX0_blockCount wsX0_blockCount) := goodIn_app (goodIn_of _ (by decide +kernel)) ggX6_breakBlock_X0_blockCount
set_option maxRecDepth 20000 in
theorem ggX6_breakBlock_X0_isBroken : GoodIn wsX6_breakBlock wsX0_isBroken := goodIn_r _ [24, 25, 26, 16, 17, 18, 19, 20, 50, 51, 52, 53, 54, 55, 56] (by decide +kernel) (by decide +kernel)
set_option maxRecDepth 20000 in
theorem gX6_breakBlock_X0_isBroken : GoodIn wsX6_breakBlock (wsV RX6 226 RX0 yX0_isBroken wsX0_isBroken) := goodIn_app (goodIn_of _ (by decide +kernel)) ggX6_breakBlock_X0_isBroken
set_option maxRecDepth 20000 in
theorem ggX6_breakBlock_X0_breakOne : GoodIn wsX6_breakBlock wsX0_breakOne := goodIn_ca (goodIn_r _ [30, 25, 31, 26, 16, 17, 18, 19, 20, 32, 33, 34, 35, 36, 37, 38, 39, 50, 51, 52, 53, 54, 55, 56] (by decide +kernel) (by decide +kernel)) (goodIn_sub (fun _ h => List.mem_cons_of_mem _ (List.mem_append_right _ h)) (by decide +kernel))
set_option maxRecDepth 20000 in
theorem gX6_breakBlock_X0_breakOne : GoodIn wsX6_breakBlock (wsV RX6 229 RX0 yX0_breakOne wsX0_breakOne) := goodIn_app (goodIn_of _ (by decide +kernel)) ggX6_breakBlock_X0_breakOne
set_option maxRecDepth 20000 in
theorem ggX6_savedAt_X6_requirePlayer : GoodIn wsX6_savedAt wsX6_requirePlayer := goodIn_ca (goodIn_r _ [9, 10, 11] (by decide +kernel) (by decide +kernel)) (goodIn_sub (fun _ h => List.mem_cons_of_mem _ (List.mem_append_left _ (List.mem_append_right _ h))) (by decide +kernel))
set_option maxRecDepth 20000 in
theorem gX6_savedAt_X6_requirePlayer : GoodIn wsX6_savedAt (va_wsS RX6 84 yX6_requirePlayer wsX6_requirePlayer) := goodIn_app (goodIn_of _ (by decide +kernel)) ggX6_savedAt_X6_requirePlayer
set_option maxRecDepth 20000 in
theorem ggX6_savedAt_X6_requireSave : GoodIn wsX6_savedAt wsX6_requireSave := goodIn_ca (goodIn_r _ [15, 1, 2, 16, 33, 34, 35, 36, 37, 38, 39, 40, 41, 42] (by decide +kernel) (by decide +kernel)) (goodIn_sub (fun _ h => List.mem_cons_of_mem _ (List.mem_append_left _ (List.mem_append_left _ (List.mem_append_left _ (List.mem_append_right _ h))))) (by decide +kernel))
set_option maxRecDepth 20000 in
theorem gX6_savedAt_X6_requireSave : GoodIn wsX6_savedAt (wsV RX6 217 RX6 yX6_requireSave wsX6_requireSave) := goodIn_app (goodIn_of _ (by decide +kernel)) ggX6_savedAt_X6_requireSave
set_option maxRecDepth 20000 in
theorem ggX6_savedAt_X0_isBroken : GoodIn wsX6_savedAt wsX0_isBroken := goodIn_r _ [21, 22, 23, 24, 25, 20, 26, 27, 43, 44, 45, 46, 47, 48, 49] (by decide +kernel) (by decide +kernel)
set_option maxRecDepth 20000 in
theorem gX6_savedAt_X0_isBroken : GoodIn wsX6_savedAt (wsV RX6 226 RX0 yX0_isBroken wsX0_isBroken) := goodIn_app (goodIn_of _ (by decide +kernel)) ggX6_savedAt_X0_isBroken
set_option maxRecDepth 20000 in
theorem ggX6_savedAt_X0_numberAt : GoodIn wsX6_savedAt wsX0_numberAt := goodIn_ca (goodIn_r _ [31, 27, 32, 43, 44, 45, 46, 47, 48, 49] (by decide +kernel) (by decide +kernel)) (goodIn_sub (fun _ h => List.mem_cons_of_mem _ (List.mem_append_right _ h)) (by decide +kernel))
set_option maxRecDepth 20000 in
theorem gX6_savedAt_X0_numberAt : GoodIn wsX6_savedAt (wsV RX6 236 RX0 yX0_numberAt wsX0_numberAt) := goodIn_app (goodIn_of _ (by decide +kernel)) ggX6_savedAt_X0_numberAt
set_option maxRecDepth 20000 in
theorem ggX6_repair_X6_requirePlayer : GoodIn wsX6_repair wsX6_requirePlayer := goodIn_ca (goodIn_r _ [5, 6, 7] (by decide +kernel) (by decide +kernel)) (goodIn_sub (fun _ h => List.mem_cons_of_mem _ (List.mem_append_left _ (List.mem_append_left _ (List.mem_append_right _ h)))) (by decide +kernel))
set_option maxRecDepth 20000 in
theorem gX6_repair_X6_requirePlayer : GoodIn wsX6_repair (va_wsS RX6 84 yX6_requirePlayer wsX6_requirePlayer) := goodIn_app (goodIn_of _ (by decide +kernel)) ggX6_repair_X6_requirePlayer
set_option maxRecDepth 20000 in
theorem ggX6_repair_X6_requireSave : GoodIn wsX6_repair wsX6_requireSave := goodIn_ca (goodIn_r _ [11, 12, 13, 14, 60, 61, 62, 63, 64, 65, 66, 67, 68, 69] (by decide +kernel) (by decide +kernel)) (goodIn_sub (fun _ h => List.mem_cons_of_mem _ (List.mem_append_left _ (List.mem_append_right _ h))) (by decide +kernel))
set_option maxRecDepth 20000 in
theorem gX6_repair_X6_requireSave : GoodIn wsX6_repair (wsV RX6 217 RX6 yX6_requireSave wsX6_requireSave) := goodIn_app (goodIn_of _ (by decide +kernel)) ggX6_repair_X6_requireSave
set_option maxRecDepth 20000 in
theorem ggX6_repair_X0_blockCount : GoodIn wsX6_repair wsX0_blockCount := goodIn_r _ [19, 20, 70, 71, 72, 73, 74, 75, 76] (by decide +kernel) (by decide +kernel)
set_option maxRecDepth 20000 in
theorem gX6_repair_X0_blockCount : GoodIn wsX6_repair (wsV RX6 220 RX0 yX0_blockCount wsX0_blockCount) := goodIn_app (goodIn_of _ (by decide +kernel)) ggX6_repair_X0_blockCount
set_option maxRecDepth 20000 in
theorem ggX6_repair_X0_isBroken : GoodIn wsX6_repair wsX0_isBroken := goodIn_r _ [24, 25, 26, 16, 17, 18, 19, 20, 70, 71, 72, 73, 74, 75, 76] (by decide +kernel) (by decide +kernel)
set_option maxRecDepth 20000 in
theorem gX6_repair_X0_isBroken : GoodIn wsX6_repair (wsV RX6 226 RX0 yX0_isBroken wsX0_isBroken) := goodIn_app (goodIn_of _ (by decide +kernel)) ggX6_repair_X0_isBroken
set_option maxRecDepth 20000 in
theorem ggX6_repair_X0_canRebuild : GoodIn wsX6_repair wsX0_canRebuild := goodIn_r _ [30, 31, 32, 33, 34, 35, 18, 36, 37, 22, 23, 24, 25, 26, 16, 17, 19, 20, 70, 71, 72, 73, 74, 75, 76] (by decide +kernel) (by decide +kernel)
set_option maxRecDepth 20000 in
theorem gX6_repair_X0_canRebuild : GoodIn wsX6_repair (wsV RX6 239 RX0 yX0_canRebuild wsX0_canRebuild) := goodIn_app (goodIn_of _ (by decide +kernel)) ggX6_repair_X0_canRebuild
set_option maxRecDepth 20000 in
theorem ggX6_repair_X0_rebuild : GoodIn wsX6_repair wsX0_rebuild := goodIn_ca (goodIn_r _ [41, 42, 43, 25, 26, 16, 17, 18, 19, 20, 44, 45, 46, 47, 48, 49, 50, 51, 52, 53, 54, 55, 33, 34, 35, 36, 31, 56, 57, 58, 59, 70, 71, 72, 73, 74, 75, 76] (by decide +kernel) (by decide +kernel)) (goodIn_sub (fun _ h => List.mem_cons_of_mem _ (List.mem_append_right _ h)) (by decide +kernel))
set_option maxRecDepth 20000 in
theorem gX6_repair_X0_rebuild : GoodIn wsX6_repair (wsV RX6 243 RX0 yX0_rebuild wsX0_rebuild) := goodIn_app (goodIn_of _ (by decide +kernel)) ggX6_repair_X0_rebuild
set_option maxRecDepth 20000 in
theorem ggX6_load_X6_requirePlayer : GoodIn wsX6_load wsX6_requirePlayer := goodIn_ca (goodIn_r _ [8, 9, 10] (by decide +kernel) (by decide +kernel)) (goodIn_sub (fun _ h => List.mem_cons_of_mem _ (List.mem_append_left _ (List.mem_append_left _ (List.mem_append_right _ h)))) (by decide +kernel))
set_option maxRecDepth 20000 in
theorem gX6_load_X6_requirePlayer : GoodIn wsX6_load (va_wsS RX6 84 yX6_requirePlayer wsX6_requirePlayer) := goodIn_app (goodIn_of _ (by decide +kernel)) ggX6_load_X6_requirePlayer
set_option maxRecDepth 20000 in
theorem ggX6_load_X6_requireSave : GoodIn wsX6_load wsX6_requireSave := goodIn_ca (goodIn_r _ [14, 15, 16, 17, 57, 58, 59, 60, 61, 62, 63, 64, 65, 66] (by decide +kernel) (by decide +kernel)) (goodIn_sub (fun _ h => List.mem_cons_of_mem _ (List.mem_append_left _ (List.mem_append_right _ h))) (by decide +kernel))
set_option maxRecDepth 20000 in
theorem gX6_load_X6_requireSave : GoodIn wsX6_load (wsV RX6 217 RX6 yX6_requireSave wsX6_requireSave) := goodIn_app (goodIn_of _ (by decide +kernel)) ggX6_load_X6_requireSave
set_option maxRecDepth 20000 in
theorem ggX6_load_X0_anyBroken : GoodIn wsX6_load wsX0_anyBroken := goodIn_r _ [22, 23, 69, 70, 71, 72, 73, 74, 75] (by decide +kernel) (by decide +kernel)
set_option maxRecDepth 20000 in
theorem gX6_load_X0_anyBroken : GoodIn wsX6_load (wsV RX6 247 RX0 yX0_anyBroken wsX0_anyBroken) := goodIn_app (goodIn_of _ (by decide +kernel)) ggX6_load_X0_anyBroken
set_option maxRecDepth 20000 in
theorem ggX6_load_X0_writeTo : GoodIn wsX6_load wsX0_writeTo := goodIn_ca (goodIn_r _ [27, 28, 29, 30, 31, 32, 33, 34, 35, 36, 7, 37, 38, 39, 40, 41, 42, 43, 44, 45, 46, 47, 48, 49, 50, 51, 52, 53, 54, 55, 56, 69, 70, 71, 72, 73, 74, 75, 67, 68] (by decide +kernel) (by decide +kernel)) (goodIn_sub (fun _ h => List.mem_cons_of_mem _ (List.mem_append_right _ h)) (by decide +kernel))
set_option maxRecDepth 20000 in
theorem gX6_load_X0_writeTo : GoodIn wsX6_load (wsV RX6 253 RX0 yX0_writeTo wsX0_writeTo) := goodIn_app (goodIn_of _ (by decide +kernel)) ggX6_load_X0_writeTo
set_option maxRecDepth 20000 in
theorem ggX6_allies_X6_requirePlayer : GoodIn wsX6_allies wsX6_requirePlayer := goodIn_ca (goodIn_r _ [5, 6, 7] (by decide +kernel) (by decide +kernel)) (goodIn_sub (fun _ h => List.mem_cons_of_mem _ (List.mem_append_left _ (List.mem_append_right _ h))) (by decide +kernel))
set_option maxRecDepth 20000 in
theorem gX6_allies_X6_requirePlayer : GoodIn wsX6_allies (va_wsS RX6 84 yX6_requirePlayer wsX6_requirePlayer) := goodIn_app (goodIn_of _ (by decide +kernel)) ggX6_allies_X6_requirePlayer
set_option maxRecDepth 20000 in
theorem ggX6_allies_X6_requireSave : GoodIn wsX6_allies wsX6_requireSave := goodIn_ca (goodIn_r _ [11, 12, 13, 14, 22, 23, 24, 25, 26, 27, 28, 29, 30, 31] (by decide +kernel) (by decide +kernel)) (goodIn_sub (fun _ h => List.mem_cons_of_mem _ (List.mem_append_right _ h)) (by decide +kernel))
set_option maxRecDepth 20000 in
theorem gX6_allies_X6_requireSave : GoodIn wsX6_allies (wsV RX6 217 RX6 yX6_requireSave wsX6_requireSave) := goodIn_app (goodIn_of _ (by decide +kernel)) ggX6_allies_X6_requireSave
set_option maxRecDepth 20000 in
theorem ggX6_allies_J6_bitCount_0f7a4 : GoodIn wsX6_allies wsJ6_bitCount_0f7a4 := goodIn_r _ [18, 19, 20, 21] (by decide +kernel) (by decide +kernel)
set_option maxRecDepth 20000 in
theorem gX6_allies_J6_bitCount_0f7a4 : GoodIn wsX6_allies (va_wsS RX6 260 yJ6_bitCount_0f7a4 wsJ6_bitCount_0f7a4) := goodIn_app (goodIn_of _ (by decide +kernel)) ggX6_allies_J6_bitCount_0f7a4
set_option maxRecDepth 20000 in
theorem ggX6_checksum_X5_place : GoodIn wsX6_checksum wsX5_place := goodIn_ca (goodIn_r _ [7, 8, 9, 24, 25, 26, 27, 28] (by decide +kernel) (by decide +kernel)) (goodIn_sub (fun _ h => List.mem_cons_of_mem _ (List.mem_append_right _ h)) (by decide +kernel))
set_option maxRecDepth 20000 in
theorem gX6_checksum_X5_place : GoodIn wsX6_checksum (wsV RX6 152 RX5 yX5_place wsX5_place) := goodIn_app (goodIn_of _ (by decide +kernel)) ggX6_checksum_X5_place
set_option maxRecDepth 20000 in
theorem ggX6_livingShare_X5_lives : GoodIn wsX6_livingShare wsX5_lives := goodIn_ca (goodIn_r _ [8, 9, 10, 11, 7, 12, 13, 14, 29, 30, 31, 32, 33] (by decide +kernel) (by decide +kernel)) (goodIn_sub (fun _ h => List.mem_cons_of_mem _ (List.mem_append_right _ h)) (by decide +kernel))
set_option maxRecDepth 20000 in
theorem gX6_livingShare_X5_lives : GoodIn wsX6_livingShare (wsV RX6 122 RX5 yX5_lives wsX5_lives) := goodIn_app (goodIn_of _ (by decide +kernel)) ggX6_livingShare_X5_lives
set_option maxRecDepth 20000 in
theorem ggX6_meanAge_X2_at : GoodIn wsX6_meanAge wsX2_at := goodIn_ca (goodIn_r _ [9, 10, 11, 27, 28] (by decide +kernel) (by decide +kernel)) (goodIn_sub (fun _ h => List.mem_cons_of_mem _ (List.mem_append_right _ h)) (by decide +kernel))
set_option maxRecDepth 20000 in
theorem gX6_meanAge_X2_at : GoodIn wsX6_meanAge (wsV RX6 176 RX2 yX2_at wsX2_at) := goodIn_app (goodIn_of _ (by decide +kernel)) ggX6_meanAge_X2_at
set_option maxRecDepth 20000 in
theorem ggX6_meanAge_X6_turnOf : GoodIn wsX6_meanAge wsX6_turnOf := goodIn_r _ [15, 16] (by decide +kernel) (by decide +kernel)
set_option maxRecDepth 20000 in
theorem gX6_meanAge_X6_turnOf : GoodIn wsX6_meanAge (va_wsS RX6 178 yX6_turnOf wsX6_turnOf) := goodIn_app (goodIn_of _ (by decide +kernel)) ggX6_meanAge_X6_turnOf
set_option maxRecDepth 20000 in
theorem ggX6_isSound_X6_unitsAreWhereReplayed : GoodIn wsX6_isSound wsX6_unitsAreWhereReplayed := goodIn_ca (goodIn_r _ [5, 6, 7, 8, 9, 10, 11, 12, 13, 14, 15, 16, 17, 18, 19, 20, 21, 22, 23, 24, 25, 26, 27, 28, 29, 30, 31, 32, 33, 34, 35, 36, 37, 38, 39, 40, 41, 42, 43, 44, 45, 46, 47, 48, 49, 50, 51, 52, 53, 54, 55, 56, 57, 58, 59, 60, 61, 62, 63, 64, 65, 66, 67, 68, 69, 70, 71, 72, 73, 74, 75, 76, 77, 78, 79, 80, 81, 82, 83, 84, 85, 86, 87, 88, 89, 90, 91, 92, 93, 94, 95, 96, 97, 98, 99, 100, 101, 102, 103, 104, 105, 106, 4, 107, 108, 109, 110, 111, 112, 113, 114, 115, 116, 117, 118, 119, 120, 121, 122, 123, 124, 125, 126, 127, 128, 129, 130, 131, 132, 133, 134, 135, 136, 137, 138, 139, 140, 141, 142, 143, 144, 145, 146, 147, 148, 149, 150, 151, 152, 153, 154, 155, 156, 157, 158, 159, 160, 161, 162, 163, 164, 165, 166, 167, 168, 169, 170, 171, 172, 173, 174, 175, 176, 177, 178, 179, 180, 181, 224, 225, 226, 227, 228, 229, 230, 231, 232, 233, 234, 235, 236, 237, 238, 239, 240, 241, 242, 243, 244, 245, 246, 247, 248, 249] (by decide +kernel) (by decide +kernel)) (goodIn_sub (fun _ h => List.mem_cons_of_mem _ (List.mem_append_right _ h)) (by decide +kernel))
set_option maxRecDepth 20000 in
theorem gX6_isSound_X6_unitsAreWhereReplayed : GoodIn wsX6_isSound (wsV RX6 274 RX6 yX6_unitsAreWhereReplayed wsX6_unitsAreWhereReplayed) := goodIn_app (goodIn_of _ (by decide +kernel)) ggX6_isSound_X6_unitsAreWhereReplayed
set_option maxRecDepth 20000 in
theorem ggX6_isSound_X6_savesAreAsTaken : GoodIn wsX6_isSound wsX6_savesAreAsTaken := goodIn_ca (goodIn_r _ [185, 186, 187, 188, 189, 190, 191, 192, 193, 194, 195, 196, 197, 198, 199, 200, 201, 202, 203, 204, 205, 206, 207, 224, 225, 226, 227, 228, 229, 230, 231, 232, 233, 250, 251, 252, 253, 254, 255, 256] (by decide +kernel) (by decide +kernel)) (goodIn_sub (fun _ h => List.mem_cons_of_mem _ (List.mem_append_right _ h)) (by decide +kernel))
set_option maxRecDepth 20000 in
theorem gX6_isSound_X6_savesAreAsTaken : GoodIn wsX6_isSound (wsV RX6 277 RX6 yX6_savesAreAsTaken wsX6_savesAreAsTaken) := goodIn_app (goodIn_of _ (by decide +kernel)) ggX6_isSound_X6_savesAreAsTaken
set_option maxRecDepth 20000 in
theorem ggX6_isSound_X6_noIndexHasOwnUnits : GoodIn wsX6_isSound wsX6_noIndexHasOwnUnits := goodIn_ca (goodIn_r _ [211, 212, 8, 213, 214, 215, 216, 217, 218, 219, 220, 221, 4, 222, 223, 125, 126, 62, 127, 64, 65, 224, 225, 226, 227, 228, 229, 230, 231, 232, 233, 257, 258, 234, 235, 236, 237, 238, 239, 240, 241, 242] (by decide +kernel) (by decide +kernel)) (goodIn_sub (fun _ h => List.mem_cons_of_mem _ (List.mem_append_right _ h)) (by decide +kernel))
set_option maxRecDepth 20000 in
theorem gX6_isSound_X6_noIndexHasOwnUnits : GoodIn wsX6_isSound (wsV RX6 280 RX6 yX6_noIndexHasOwnUnits wsX6_noIndexHasOwnUnits) := goodIn_app (goodIn_of _ (by decide +kernel)) ggX6_isSound_X6_noIndexHasOwnUnits
set_option maxRecDepth 20000 in
theorem ggX6_requireCell_X6_isCell : GoodIn wsX6_requireCell wsX6_isCell := goodIn_r _ [6] (by decide +kernel) (by decide +kernel)
set_option maxRecDepth 20000 in
theorem gX6_requireCell_X6_isCell : GoodIn wsX6_requireCell (va_wsS RX6 285 yX6_isCell wsX6_isCell) := goodIn_app (goodIn_of _ (by decide +kernel)) ggX6_requireCell_X6_isCell
set_option maxRecDepth 20000 in
theorem ggX6_requireUnit_X5_has : GoodIn wsX6_requireUnit wsX5_has := goodIn_r _ [8, 9, 24, 25, 26, 27, 28] (by decide +kernel) (by decide +kernel)
set_option maxRecDepth 20000 in
theorem gX6_requireUnit_X5_has : GoodIn wsX6_requireUnit (wsV RX6 290 RX5 yX5_has wsX5_has) := goodIn_app (goodIn_of _ (by decide +kernel)) ggX6_requireUnit_X5_has
set_option maxRecDepth 20000 in
theorem ggX6_watch_X5_place : GoodIn wsX6_watch wsX5_place := goodIn_ca (goodIn_r _ [9, 10, 11, 98, 99, 100, 101, 102] (by decide +kernel) (by decide +kernel)) (goodIn_sub (fun _ h => List.mem_cons_of_mem _ (List.mem_append_left _ (List.mem_append_right _ h))) (by decide +kernel))
set_option maxRecDepth 20000 in
theorem gX6_watch_X5_place : GoodIn wsX6_watch (wsV RX6 152 RX5 yX5_place wsX5_place) := goodIn_app (goodIn_of _ (by decide +kernel)) ggX6_watch_X5_place
set_option maxRecDepth 20000 in
theorem ggX6_watch_X5_owner : GoodIn wsX6_watch wsX5_owner := goodIn_ca (goodIn_r _ [15, 10, 16, 98, 99, 100, 101, 102] (by decide +kernel) (by decide +kernel)) (goodIn_sub (fun _ h => List.mem_cons_of_mem _ (List.mem_append_left _ (List.mem_append_right _ h))) (by decide +kernel))
set_option maxRecDepth 20000 in
theorem gX6_watch_X5_owner : GoodIn wsX6_watch (wsV RX6 298 RX5 yX5_owner wsX5_owner) := goodIn_app (goodIn_of _ (by decide +kernel)) ggX6_watch_X5_owner
set_option maxRecDepth 20000 in
theorem ggX6_watch_X1_playerSpots : GoodIn wsX6_watch wsX1_playerSpots := goodIn_ca (goodIn_ca (goodIn_r _ [21, 22, 23, 13, 14, 8, 15, 10, 16, 24, 25, 26, 20, 27, 28, 29, 6, 7, 9, 11, 30, 31, 32, 33, 34, 35, 36, 37, 38, 39, 40, 41, 42, 43, 44, 45, 46, 47, 48, 49, 50, 51, 52, 53, 54, 55, 56, 57, 58, 59, 60, 61, 62, 94, 95, 96, 97, 98, 99, 100, 101, 102, 103] (by decide +kernel) (by decide +kernel)) (goodIn_sub (fun _ h => List.mem_cons_of_mem _ (List.mem_append_left _ (List.mem_append_right _ h))) (by decide +kernel))) (goodIn_sub (fun _ h => List.mem_cons_of_mem _ (List.mem_append_right _ h)) (by decide +kernel))
set_option maxRecDepth 20000 in
theorem gX6_watch_X1_playerSpots : GoodIn wsX6_watch (wsV RX6 159 RX1 yX1_playerSpots wsX1_playerSpots) := goodIn_app (goodIn_of _ (by decide +kernel)) ggX6_watch_X1_playerSpots
set_option maxRecDepth 20000 in
theorem ggX6_watch_X2_add : GoodIn wsX6_watch wsX2_add := goodIn_ca (goodIn_r _ [67, 68, 69, 70, 71, 66, 72, 73, 42, 74, 75, 76, 77, 78, 79, 80, 81, 82, 83, 104, 105] (by decide +kernel) (by decide +kernel)) (goodIn_sub (fun _ h => List.mem_cons_of_mem _ (List.mem_append_left _ (List.mem_append_right _ h))) (by decide +kernel))
set_option maxRecDepth 20000 in
theorem gX6_watch_X2_add : GoodIn wsX6_watch (wsV RX6 301 RX2 yX2_add wsX2_add) := goodIn_app (goodIn_of _ (by decide +kernel)) ggX6_watch_X2_add
set_option maxRecDepth 20000 in
theorem ggX6_hearAll_X6_hasTreaty : GoodIn wsX6_hearAll wsX6_hasTreaty := goodIn_ca (goodIn_r _ [5, 6, 52, 53, 54, 55, 56, 57, 58, 59, 60, 61] (by decide +kernel) (by decide +kernel)) (goodIn_sub (fun _ h => List.mem_cons_of_mem _ (List.mem_append_right _ h)) (by decide +kernel))
set_option maxRecDepth 20000 in
theorem gX6_hearAll_X6_hasTreaty : GoodIn wsX6_hearAll (wsV RX6 164 RX6 yX6_hasTreaty wsX6_hasTreaty) := goodIn_app (goodIn_of _ (by decide +kernel)) ggX6_hearAll_X6_hasTreaty
set_option maxRecDepth 20000 in
theorem ggX6_hearAll_X6_hear : GoodIn wsX6_hearAll wsX6_hear := goodIn_ca (goodIn_r _ [10, 11, 12, 13, 14, 15, 16, 17, 18, 19, 20, 21, 22, 23, 24, 25, 26, 27, 28, 29, 4, 30, 31, 32, 33, 34, 35, 36, 37, 38, 39, 40, 41, 42, 43, 44, 45, 46, 47, 48, 49, 50, 51, 52, 53, 54, 55, 56, 57, 58, 59, 60, 61, 62, 63, 64, 65, 66, 67, 68, 69, 70, 71, 72] (by decide +kernel) (by decide +kernel)) (goodIn_sub (fun _ h => List.mem_cons_of_mem _ (List.mem_append_right _ h)) (by decide +kernel))
set_option maxRecDepth 20000 in
theorem gX6_hearAll_X6_hear : GoodIn wsX6_hearAll (wsV RX6 305 RX6 yX6_hear wsX6_hear) := goodIn_app (goodIn_of _ (by decide +kernel)) ggX6_hearAll_X6_hear
set_option maxRecDepth 20000 in
theorem ggX6_hear_X5_owner : GoodIn wsX6_hear wsX5_owner := goodIn_ca (goodIn_r _ [9, 10, 11, 57, 58, 59, 60, 61] (by decide +kernel) (by decide +kernel)) (goodIn_sub (fun _ h => List.mem_cons_of_mem _ (List.mem_append_right _ h)) (by decide +kernel))
set_option maxRecDepth 20000 in
theorem gX6_hear_X5_owner : GoodIn wsX6_hear (wsV RX6 298 RX5 yX5_owner wsX5_owner) := goodIn_app (goodIn_of _ (by decide +kernel)) ggX6_hear_X5_owner
set_option maxRecDepth 20000 in
theorem ggX6_hear_X2_has : GoodIn wsX6_hear wsX2_has := goodIn_ca (goodIn_r _ [16, 17, 18, 19, 20, 21, 22, 23, 24, 62, 63] (by decide +kernel) (by decide +kernel)) (goodIn_sub (fun _ h => List.mem_cons_of_mem _ (List.mem_append_right _ h)) (by decide +kernel))
set_option maxRecDepth 20000 in
theorem gX6_hear_X2_has : GoodIn wsX6_hear (wsV RX6 309 RX2 yX2_has wsX2_has) := goodIn_app (goodIn_of _ (by decide +kernel)) ggX6_hear_X2_has
set_option maxRecDepth 20000 in
theorem ggX6_hear_X5_place : GoodIn wsX6_hear wsX5_place := goodIn_ca (goodIn_r _ [28, 10, 29, 57, 58, 59, 60, 61] (by decide +kernel) (by decide +kernel)) (goodIn_sub (fun _ h => List.mem_cons_of_mem _ (List.mem_append_right _ h)) (by decide +kernel))
set_option maxRecDepth 20000 in
theorem gX6_hear_X5_place : GoodIn wsX6_hear (wsV RX6 152 RX5 yX5_place wsX5_place) := goodIn_app (goodIn_of _ (by decide +kernel)) ggX6_hear_X5_place
set_option maxRecDepth 20000 in
theorem ggX6_hear_X2_add : GoodIn wsX6_hear wsX2_add := goodIn_ca (goodIn_r _ [33, 17, 18, 34, 35, 15, 36, 19, 20, 21, 22, 23, 24, 37, 38, 39, 40, 41, 42, 62, 63] (by decide +kernel) (by decide +kernel)) (goodIn_sub (fun _ h => List.mem_cons_of_mem _ (List.mem_append_right _ h)) (by decide +kernel))
set_option maxRecDepth 20000 in
theorem gX6_hear_X2_add : GoodIn wsX6_hear (wsV RX6 301 RX2 yX2_add wsX2_add) := goodIn_app (goodIn_of _ (by decide +kernel)) ggX6_hear_X2_add
set_option maxRecDepth 20000 in
theorem ggX6_unitsAreWhereReplayed_X3_grow : GoodIn wsX6_unitsAreWhereReplayed wsX3_grow := goodIn_ca (goodIn_r _ [10, 11, 12, 13, 14, 15, 16, 17, 18, 19, 20, 21, 22, 23, 24, 25, 26, 27, 28, 29, 30, 31, 32, 33, 34, 35, 36, 37, 38, 39, 40, 41, 42, 43, 44, 45, 46, 47, 48, 49, 50, 51, 52, 53, 197, 198, 199, 200, 201] (by decide +kernel) (by decide +kernel)) (goodIn_sub (fun _ h => List.mem_cons_of_mem _ (List.mem_append_right _ h)) (by decide +kernel))
set_option maxRecDepth 20000 in
theorem gX6_unitsAreWhereReplayed_X3_grow : GoodIn wsX6_unitsAreWhereReplayed (wsV RX6 51 RX3 yX3_grow wsX3_grow) := goodIn_app (goodIn_of _ (by decide +kernel)) ggX6_unitsAreWhereReplayed_X3_grow
set_option maxRecDepth 20000 in
theorem ggX6_unitsAreWhereReplayed_X5_startLike : GoodIn wsX6_unitsAreWhereReplayed wsX5_startLike := goodIn_ca (goodIn_r _ [58, 59, 60, 61, 62, 63, 64, 65, 57, 66, 67, 192, 193, 194, 195, 196] (by decide +kernel) (by decide +kernel)) (goodIn_sub (fun _ h => List.mem_cons_of_mem _ (List.mem_append_right _ h)) (by decide +kernel))
set_option maxRecDepth 20000 in
theorem gX6_unitsAreWhereReplayed_X5_startLike : GoodIn wsX6_unitsAreWhereReplayed (wsV RX6 311 RX5 yX5_startLike wsX5_startLike) := goodIn_app (goodIn_of _ (by decide +kernel)) ggX6_unitsAreWhereReplayed_X5_startLike
set_option maxRecDepth 20000 in
theorem ggX6_unitsAreWhereReplayed_X1_playTurn : GoodIn wsX6_unitsAreWhereReplayed wsX1_playTurn := goodIn_ca (goodIn_r _ [72, 73, 74, 75, 71, 76, 77, 78, 79, 80, 81, 82, 57, 83, 59, 67, 84, 85, 86, 87, 88, 89, 90, 91, 92, 93, 94, 95, 9, 96, 97, 98, 99, 100, 12, 101, 102, 103, 104, 105, 106, 107, 108, 109, 110, 111, 112, 113, 114, 115, 116, 117, 118, 119, 120, 121, 122, 123, 60, 124, 125, 126, 127, 128, 129, 130, 131, 61, 132, 133, 134, 135, 136, 137, 138, 139, 140, 141, 142, 143, 144, 145, 146, 147, 148, 149, 150, 151, 152, 153, 154, 155, 156, 157, 158, 159, 160, 161, 162, 163, 164, 165, 166, 167, 168, 169, 170, 171, 172, 173, 174, 175, 176, 188, 189, 190, 191, 192, 193, 194, 195, 196, 202, 203, 197] (by decide +kernel) (by decide +kernel)) (goodIn_sub (fun _ h => List.mem_cons_of_mem _ (List.mem_append_right _ h)) (by decide +kernel))
set_option maxRecDepth 20000 in
theorem gX6_unitsAreWhereReplayed_X1_playTurn : GoodIn wsX6_unitsAreWhereReplayed (wsV RX6 139 RX1 yX1_playTurn wsX1_playTurn) := goodIn_app (goodIn_of _ (by decide +kernel)) ggX6_unitsAreWhereReplayed_X1_playTurn
set_option maxRecDepth 20000 in
theorem ggX6_unitsAreWhereReplayed_X5_place : GoodIn wsX6_unitsAreWhereReplayed wsX5_place := goodIn_ca (goodIn_r _ [83, 59, 67, 192, 193, 194, 195, 196] (by decide +kernel) (by decide +kernel)) (goodIn_sub (fun _ h => List.mem_cons_of_mem _ (List.mem_append_right _ h)) (by decide +kernel))
set_option maxRecDepth 20000 in
theorem gX6_unitsAreWhereReplayed_X5_place : GoodIn wsX6_unitsAreWhereReplayed (wsV RX6 152 RX5 yX5_place wsX5_place) := goodIn_app (goodIn_of _ (by decide +kernel)) ggX6_unitsAreWhereReplayed_X5_place
set_option maxRecDepth 20000 in
theorem ggX6_savesAreAsTaken_X0_isAsTaken : GoodIn wsX6_savesAreAsTaken wsX0_isAsTaken := goodIn_ca (goodIn_r _ [6, 7, 8, 9, 10, 11, 5, 12, 13, 14, 15, 16, 17, 18, 19, 20, 21, 22, 33, 34, 35, 36, 37, 38, 39] (by decide +kernel) (by decide +kernel)) (goodIn_sub (fun _ h => List.mem_cons_of_mem _ (List.mem_append_right _ h)) (by decide +kernel))
set_option maxRecDepth 20000 in
theorem gX6_savesAreAsTaken_X0_isAsTaken : GoodIn wsX6_savesAreAsTaken (wsV RX6 315 RX0 yX0_isAsTaken wsX0_isAsTaken) := goodIn_app (goodIn_of _ (by decide +kernel)) ggX6_savesAreAsTaken_X0_isAsTaken
set_option maxRecDepth 20000 in
theorem ggX6_noIndexHasOwnUnits_X2_at : GoodIn wsX6_noIndexHasOwnUnits wsX2_at := goodIn_ca (goodIn_r _ [7, 8, 9, 31, 32] (by decide +kernel) (by decide +kernel)) (goodIn_sub (fun _ h => List.mem_cons_of_mem _ (List.mem_append_right _ h)) (by decide +kernel))
set_option maxRecDepth 20000 in
theorem gX6_noIndexHasOwnUnits_X2_at : GoodIn wsX6_noIndexHasOwnUnits (wsV RX6 176 RX2 yX2_at wsX2_at) := goodIn_app (goodIn_of _ (by decide +kernel)) ggX6_noIndexHasOwnUnits_X2_at
set_option maxRecDepth 20000 in
theorem ggX6_noIndexHasOwnUnits_X6_unitOf : GoodIn wsX6_noIndexHasOwnUnits wsX6_unitOf := goodIn_r _ [13] (by decide +kernel) (by decide +kernel)
set_option maxRecDepth 20000 in
theorem gX6_noIndexHasOwnUnits_X6_unitOf : GoodIn wsX6_noIndexHasOwnUnits (va_wsS RX6 184 yX6_unitOf wsX6_unitOf) := goodIn_app (goodIn_of _ (by decide +kernel)) ggX6_noIndexHasOwnUnits_X6_unitOf
set_option maxRecDepth 20000 in
theorem ggX6_noIndexHasOwnUnits_X5_owner : GoodIn wsX6_noIndexHasOwnUnits wsX5_owner := goodIn_ca (goodIn_r _ [18, 19, 20, 37, 38, 39, 40, 41] (by decide +kernel) (by decide +kernel)) (goodIn_sub (fun _ h => List.mem_cons_of_mem _ (List.mem_append_right _ h)) (by decide +kernel))
set_option maxRecDepth 20000 in
theorem gX6_noIndexHasOwnUnits_X5_owner : GoodIn wsX6_noIndexHasOwnUnits (wsV RX6 298 RX5 yX5_owner wsX5_owner) := goodIn_app (goodIn_of _ (by decide +kernel)) ggX6_noIndexHasOwnUnits_X5_owner
