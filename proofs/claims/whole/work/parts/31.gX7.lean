set_option maxRecDepth 20000 in
theorem ggX7_noPlayer_X7_no : GoodIn wsX7_noPlayer wsX7_no := goodIn_r _ [5, 6, 7, 8, 9, 10, 11, 12, 13, 14, 15, 16, 17, 18, 19, 20, 21, 22, 23, 24, 25, 26] (by decide +kernel) (by decide +kernel)
set_option maxRecDepth 20000 in
theorem gX7_noPlayer_X7_no : GoodIn wsX7_noPlayer (wsV RX7 61 RX7 yX7_no wsX7_no) := goodIn_app (goodIn_of _ (by decide +kernel)) ggX7_noPlayer_X7_no
set_option maxRecDepth 20000 in
theorem ggX7_noUnit_X7_no : GoodIn wsX7_noUnit wsX7_no := goodIn_r _ [6, 7, 8, 9, 10, 11, 12, 13, 14, 15, 16, 17, 18, 19, 20, 21, 22, 23, 24, 25, 26, 27] (by decide +kernel) (by decide +kernel)
set_option maxRecDepth 20000 in
theorem gX7_noUnit_X7_no : GoodIn wsX7_noUnit (wsV RX7 61 RX7 yX7_no wsX7_no) := goodIn_app (goodIn_of _ (by decide +kernel)) ggX7_noUnit_X7_no
set_option maxRecDepth 20000 in
theorem ggX7_setSeed_X7_no : GoodIn wsX7_setSeed wsX7_no := goodIn_r _ [7, 8, 9, 10, 11, 12, 13, 14, 15, 16, 17, 18, 19, 20, 21, 22, 23, 24, 25, 26, 27, 28] (by decide +kernel) (by decide +kernel)
set_option maxRecDepth 20000 in
theorem gX7_setSeed_X7_no : GoodIn wsX7_setSeed (wsV RX7 61 RX7 yX7_no wsX7_no) := goodIn_app (goodIn_of _ (by decide +kernel)) ggX7_setSeed_X7_no
set_option maxRecDepth 20000 in
theorem ggX7_ground_X7_isCell : GoodIn wsX7_ground wsX7_isCell := goodIn_r _ [4] (by decide +kernel) (by decide +kernel)
set_option maxRecDepth 20000 in
theorem gX7_ground_X7_isCell : GoodIn wsX7_ground (va_wsS RX7 72 yX7_isCell wsX7_isCell) := goodIn_app (goodIn_of _ (by decide +kernel)) ggX7_ground_X7_isCell
set_option maxRecDepth 20000 in
theorem ggX7_ground_X7_no : GoodIn wsX7_ground wsX7_no := goodIn_r _ [8, 9, 16, 17, 18, 19, 20, 21, 22, 23, 24, 25, 26, 27, 28, 29, 30, 31, 32, 33, 34, 35] (by decide +kernel) (by decide +kernel)
set_option maxRecDepth 20000 in
theorem gX7_ground_X7_no : GoodIn wsX7_ground (wsV RX7 61 RX7 yX7_no wsX7_no) := goodIn_app (goodIn_of _ (by decide +kernel)) ggX7_ground_X7_no
set_option maxRecDepth 20000 in
theorem ggX7_ground_X7_groundOf : GoodIn wsX7_ground wsX7_groundOf := goodIn_r _ [13, 14, 15, 16, 17, 18, 19, 20, 21, 22, 23, 24, 25, 26, 27, 28, 29, 30, 31, 32, 33, 34, 35] (by decide +kernel) (by decide +kernel)
set_option maxRecDepth 20000 in
theorem gX7_ground_X7_groundOf : GoodIn wsX7_ground (wsV RX7 76 RX7 yX7_groundOf wsX7_groundOf) := goodIn_app (goodIn_of _ (by decide +kernel)) ggX7_ground_X7_groundOf
set_option maxRecDepth 20000 in
theorem ggX7_addUnit_X7_isCell : GoodIn wsX7_addUnit wsX7_isCell := goodIn_r _ [9] (by decide +kernel) (by decide +kernel)
set_option maxRecDepth 20000 in
theorem gX7_addUnit_X7_isCell : GoodIn wsX7_addUnit (va_wsS RX7 72 yX7_isCell wsX7_isCell) := goodIn_app (goodIn_of _ (by decide +kernel)) ggX7_addUnit_X7_isCell
set_option maxRecDepth 20000 in
theorem ggX7_addUnit_X7_no : GoodIn wsX7_addUnit wsX7_no := goodIn_r _ [13, 14, 25, 26, 27, 28, 29, 30, 31, 32, 33, 34, 35, 36, 37, 38, 39, 40, 41, 42, 43, 44] (by decide +kernel) (by decide +kernel)
set_option maxRecDepth 20000 in
theorem gX7_addUnit_X7_no : GoodIn wsX7_addUnit (wsV RX7 61 RX7 yX7_no wsX7_no) := goodIn_app (goodIn_of _ (by decide +kernel)) ggX7_addUnit_X7_no
set_option maxRecDepth 20000 in
theorem ggX7_addUnit_X7_groundOf : GoodIn wsX7_addUnit wsX7_groundOf := goodIn_r _ [18, 19, 20, 25, 26, 27, 28, 29, 30, 31, 32, 33, 34, 35, 36, 37, 38, 39, 40, 41, 42, 43, 44] (by decide +kernel) (by decide +kernel)
set_option maxRecDepth 20000 in
theorem gX7_addUnit_X7_groundOf : GoodIn wsX7_addUnit (wsV RX7 76 RX7 yX7_groundOf wsX7_groundOf) := goodIn_app (goodIn_of _ (by decide +kernel)) ggX7_addUnit_X7_groundOf
set_option maxRecDepth 20000 in
theorem ggX7_addUnit_X7_on : GoodIn wsX7_addUnit wsX7_on := goodIn_ca (goodIn_r _ [24, 1, 5, 25, 26, 27, 28, 29, 30, 31, 32, 33, 34, 35, 36, 37, 38, 39, 40, 41, 42, 43, 44] (by decide +kernel) (by decide +kernel)) (goodIn_sub (fun _ h => List.mem_cons_of_mem _ (List.mem_append_right _ h)) (by decide +kernel))
set_option maxRecDepth 20000 in
theorem gX7_addUnit_X7_on : GoodIn wsX7_addUnit (wsV RX7 80 RX7 yX7_on wsX7_on) := goodIn_app (goodIn_of _ (by decide +kernel)) ggX7_addUnit_X7_on
set_option maxRecDepth 20000 in
theorem ggX7_order_X7_noUnit : GoodIn wsX7_order wsX7_noUnit := goodIn_r _ [9, 10, 11, 12, 13, 8, 14, 15, 21, 22, 23, 24, 25, 26, 27, 28, 29, 30, 31, 32, 33, 34, 35, 36, 37, 38, 39, 40] (by decide +kernel) (by decide +kernel)
set_option maxRecDepth 20000 in
theorem gX7_order_X7_noUnit : GoodIn wsX7_order (wsV RX7 87 RX7 yX7_noUnit wsX7_noUnit) := goodIn_app (goodIn_of _ (by decide +kernel)) ggX7_order_X7_noUnit
set_option maxRecDepth 20000 in
theorem ggX7_order_X7_no : GoodIn wsX7_order wsX7_no := goodIn_r _ [14, 15, 21, 22, 23, 24, 25, 26, 27, 28, 29, 30, 31, 32, 33, 34, 35, 36, 37, 38, 39, 40] (by decide +kernel) (by decide +kernel)
set_option maxRecDepth 20000 in
theorem gX7_order_X7_no : GoodIn wsX7_order (wsV RX7 61 RX7 yX7_no wsX7_no) := goodIn_app (goodIn_of _ (by decide +kernel)) ggX7_order_X7_no
set_option maxRecDepth 20000 in
theorem ggX7_order_X7_steps : GoodIn wsX7_order wsX7_steps := goodIn_ca (goodIn_r _ [19, 20, 21, 22, 23, 24, 25, 26, 27, 28, 29, 30, 31, 32, 33, 34, 35, 36, 37, 38, 39, 40] (by decide +kernel) (by decide +kernel)) (goodIn_sub (fun _ h => List.mem_cons_of_mem _ (List.mem_append_right _ h)) (by decide +kernel))
set_option maxRecDepth 20000 in
theorem gX7_order_X7_steps : GoodIn wsX7_order (wsV RX7 90 RX7 yX7_steps wsX7_steps) := goodIn_app (goodIn_of _ (by decide +kernel)) ggX7_order_X7_steps
set_option maxRecDepth 20000 in
theorem ggX7_step_X7_moved : GoodIn wsX7_step wsX7_moved := goodIn_r _ [10] (by decide +kernel) (by decide +kernel)
set_option maxRecDepth 20000 in
theorem gX7_step_X7_moved : GoodIn wsX7_step (va_wsS RX7 93 yX7_moved wsX7_moved) := goodIn_app (goodIn_of _ (by decide +kernel)) ggX7_step_X7_moved
set_option maxRecDepth 20000 in
theorem ggX7_step_X7_groundOf : GoodIn wsX7_step wsX7_groundOf := goodIn_r _ [14, 15, 16, 47, 48, 49, 50, 51, 52, 53, 54, 55, 56, 57, 58, 59, 60, 61, 62, 63, 64, 65, 66] (by decide +kernel) (by decide +kernel)
set_option maxRecDepth 20000 in
theorem gX7_step_X7_groundOf : GoodIn wsX7_step (wsV RX7 76 RX7 yX7_groundOf wsX7_groundOf) := goodIn_app (goodIn_of _ (by decide +kernel)) ggX7_step_X7_groundOf
set_option maxRecDepth 20000 in
theorem ggX7_step_X7_meets : GoodIn wsX7_step wsX7_meets := goodIn_ca (goodIn_r _ [20, 2, 6, 21, 22, 23, 24, 9, 25, 26, 27, 28, 29, 30, 47, 48, 49, 50, 51, 52, 53, 54, 55, 56, 57, 58, 59, 60, 61, 62, 63, 64, 65, 66] (by decide +kernel) (by decide +kernel)) (goodIn_sub (fun _ h => List.mem_cons_of_mem _ (List.mem_append_right _ h)) (by decide +kernel))
set_option maxRecDepth 20000 in
theorem gX7_step_X7_meets : GoodIn wsX7_step (wsV RX7 97 RX7 yX7_meets wsX7_meets) := goodIn_app (goodIn_of _ (by decide +kernel)) ggX7_step_X7_meets
set_option maxRecDepth 20000 in
theorem ggX7_step_X7_contested : GoodIn wsX7_step wsX7_contested := goodIn_ca (goodIn_r _ [34, 1, 6, 47, 48, 49, 50, 51, 52, 53, 54, 55, 56, 57, 58, 59, 60, 61, 62, 63, 64, 65, 66] (by decide +kernel) (by decide +kernel)) (goodIn_sub (fun _ h => List.mem_cons_of_mem _ (List.mem_append_right _ h)) (by decide +kernel))
set_option maxRecDepth 20000 in
theorem gX7_step_X7_contested : GoodIn wsX7_step (wsV RX7 101 RX7 yX7_contested wsX7_contested) := goodIn_app (goodIn_of _ (by decide +kernel)) ggX7_step_X7_contested
set_option maxRecDepth 20000 in
theorem ggX7_step_X7_solves : GoodIn wsX7_step wsX7_solves := goodIn_ca (goodIn_r _ [38, 1, 2, 6, 21, 39, 40, 41, 9, 42, 43, 44, 45, 46, 22, 23, 24, 25, 26, 27, 28, 29, 30, 47, 48, 49, 50, 51, 52, 53, 54, 55, 56, 57, 58, 59, 60, 61, 62, 63, 64, 65, 66] (by decide +kernel) (by decide +kernel)) (goodIn_sub (fun _ h => List.mem_cons_of_mem _ (List.mem_append_right _ h)) (by decide +kernel))
set_option maxRecDepth 20000 in
theorem gX7_step_X7_solves : GoodIn wsX7_step (wsV RX7 105 RX7 yX7_solves wsX7_solves) := goodIn_app (goodIn_of _ (by decide +kernel)) ggX7_step_X7_solves
set_option maxRecDepth 20000 in
theorem ggX7_meets_X7_power : GoodIn wsX7_meets wsX7_power := goodIn_ca (goodIn_r _ [8, 9, 14, 15, 16, 17, 18, 19, 20, 21, 22, 23, 24, 25, 26, 27, 28, 29, 30, 31, 32, 33] (by decide +kernel) (by decide +kernel)) (goodIn_sub (fun _ h => List.mem_cons_of_mem _ (List.mem_append_right _ h)) (by decide +kernel))
set_option maxRecDepth 20000 in
theorem gX7_meets_X7_power : GoodIn wsX7_meets (wsV RX7 109 RX7 yX7_power wsX7_power) := goodIn_app (goodIn_of _ (by decide +kernel)) ggX7_meets_X7_power
set_option maxRecDepth 20000 in
theorem ggX7_meets_X7_lose : GoodIn wsX7_meets wsX7_lose := goodIn_ca (goodIn_r _ [13, 1, 2, 14, 15, 16, 17, 18, 19, 20, 21, 22, 23, 24, 25, 26, 27, 28, 29, 30, 31, 32, 33] (by decide +kernel) (by decide +kernel)) (goodIn_sub (fun _ h => List.mem_cons_of_mem _ (List.mem_append_right _ h)) (by decide +kernel))
set_option maxRecDepth 20000 in
theorem gX7_meets_X7_lose : GoodIn wsX7_meets (wsV RX7 112 RX7 yX7_lose wsX7_lose) := goodIn_app (goodIn_of _ (by decide +kernel)) ggX7_meets_X7_lose
set_option maxRecDepth 20000 in
theorem ggX7_powerAt_X7_power : GoodIn wsX7_powerAt wsX7_power := goodIn_ca (goodIn_r _ [8, 9, 10, 11, 12, 13, 14, 15, 16, 17, 18, 19, 20, 21, 22, 23, 24, 25, 26, 27, 28, 29] (by decide +kernel) (by decide +kernel)) (goodIn_sub (fun _ h => List.mem_cons_of_mem _ (List.mem_append_right _ h)) (by decide +kernel))
set_option maxRecDepth 20000 in
theorem gX7_powerAt_X7_power : GoodIn wsX7_powerAt (wsV RX7 109 RX7 yX7_power wsX7_power) := goodIn_app (goodIn_of _ (by decide +kernel)) ggX7_powerAt_X7_power
set_option maxRecDepth 20000 in
theorem ggX7_strongest_X7_powerAt : GoodIn wsX7_strongest wsX7_powerAt := goodIn_ca (goodIn_r _ [5, 6, 7, 8, 9, 10, 11, 4, 12, 13, 14, 15, 16, 17, 18, 19, 20, 21, 22, 23, 24, 25, 26, 27, 28, 29, 30, 31, 32, 33] (by decide +kernel) (by decide +kernel)) (goodIn_sub (fun _ h => List.mem_cons_of_mem _ (List.mem_append_right _ h)) (by decide +kernel))
set_option maxRecDepth 20000 in
theorem gX7_strongest_X7_powerAt : GoodIn wsX7_strongest (wsV RX7 115 RX7 yX7_powerAt wsX7_powerAt) := goodIn_app (goodIn_of _ (by decide +kernel)) ggX7_strongest_X7_powerAt
set_option maxRecDepth 20000 in
theorem ggX7_solves_X7_strongest : GoodIn wsX7_solves wsX7_strongest := goodIn_ca (goodIn_r _ [9, 10, 11, 12, 8, 13, 1, 3, 4, 14, 15, 16, 17, 18, 23, 24, 25, 26, 27, 28, 29, 30, 31, 32, 33, 34, 35, 36, 37, 38, 39, 40, 41, 42] (by decide +kernel) (by decide +kernel)) (goodIn_sub (fun _ h => List.mem_cons_of_mem _ (List.mem_append_right _ h)) (by decide +kernel))
set_option maxRecDepth 20000 in
theorem gX7_solves_X7_strongest : GoodIn wsX7_solves (wsV RX7 118 RX7 yX7_strongest wsX7_strongest) := goodIn_app (goodIn_of _ (by decide +kernel)) ggX7_solves_X7_strongest
set_option maxRecDepth 20000 in
theorem ggX7_solves_X7_lose : GoodIn wsX7_solves wsX7_lose := goodIn_ca (goodIn_r _ [22, 2, 3, 23, 24, 25, 26, 27, 28, 29, 30, 31, 32, 33, 34, 35, 36, 37, 38, 39, 40, 41, 42] (by decide +kernel) (by decide +kernel)) (goodIn_sub (fun _ h => List.mem_cons_of_mem _ (List.mem_append_right _ h)) (by decide +kernel))
set_option maxRecDepth 20000 in
theorem gX7_solves_X7_lose : GoodIn wsX7_solves (wsV RX7 112 RX7 yX7_lose wsX7_lose) := goodIn_app (goodIn_of _ (by decide +kernel)) ggX7_solves_X7_lose
set_option maxRecDepth 20000 in
theorem ggX7_turn_X7_no : GoodIn wsX7_turn wsX7_no := goodIn_r _ [8, 9, 108, 109, 110, 111, 112, 113, 114, 115, 116, 117, 118, 119, 120, 121, 122, 123, 124, 125, 126, 127] (by decide +kernel) (by decide +kernel)
set_option maxRecDepth 20000 in
theorem gX7_turn_X7_no : GoodIn wsX7_turn (wsV RX7 61 RX7 yX7_no wsX7_no) := goodIn_app (goodIn_of _ (by decide +kernel)) ggX7_turn_X7_no
set_option maxRecDepth 20000 in
theorem ggX7_turn_X7_living : GoodIn wsX7_turn wsX7_living := goodIn_ca (goodIn_r _ [13, 2, 14, 108, 109, 110, 111, 112, 113, 114, 115, 116, 117, 118, 119, 120, 121, 122, 123, 124, 125, 126, 127] (by decide +kernel) (by decide +kernel)) (goodIn_sub (fun _ h => List.mem_cons_of_mem _ (List.mem_append_left _ (List.mem_append_right _ h))) (by decide +kernel))
set_option maxRecDepth 20000 in
theorem gX7_turn_X7_living : GoodIn wsX7_turn (wsV RX7 121 RX7 yX7_living wsX7_living) := goodIn_app (goodIn_of _ (by decide +kernel)) ggX7_turn_X7_living
set_option maxRecDepth 20000 in
theorem ggX7_turn_X7_step : GoodIn wsX7_turn wsX7_step := goodIn_ca (goodIn_r _ [18, 2, 14, 3, 19, 20, 21, 22, 23, 7, 24, 25, 26, 27, 28, 29, 30, 31, 32, 33, 34, 35, 36, 37, 38, 39, 40, 41, 42, 43, 44, 45, 46, 47, 48, 49, 50, 51, 52, 53, 54, 55, 56, 57, 58, 59, 60, 108, 109, 110, 111, 112, 113, 114, 115, 116, 117, 118, 119, 120, 121, 122, 123, 124, 125, 126, 127] (by decide +kernel) (by decide +kernel)) (goodIn_sub (fun _ h => List.mem_cons_of_mem _ (List.mem_append_left _ (List.mem_append_right _ h))) (by decide +kernel))
set_option maxRecDepth 20000 in
theorem gX7_turn_X7_step : GoodIn wsX7_turn (wsV RX7 124 RX7 yX7_step wsX7_step) := goodIn_app (goodIn_of _ (by decide +kernel)) ggX7_turn_X7_step
set_option maxRecDepth 20000 in
theorem ggX7_turn_X7_sights : GoodIn wsX7_turn wsX7_sights := goodIn_ca (goodIn_ca (goodIn_r _ [64, 2, 65, 35, 66, 67, 68, 7, 69, 14, 70, 71, 72, 73, 74, 75, 76, 77, 40, 78, 79, 80, 81, 82, 83, 84, 25, 26, 27, 28, 29, 30, 85, 86, 87, 88, 89, 90, 91, 92, 1, 93, 94, 95, 96, 97, 98, 99, 100, 101, 102, 103, 104, 105, 106, 107, 108, 109, 110, 111, 112, 113, 114, 115, 116, 117, 118, 119, 120, 121, 122, 123, 124, 125, 126, 127] (by decide +kernel) (by decide +kernel)) (goodIn_sub (fun _ h => List.mem_cons_of_mem _ (List.mem_append_left _ (List.mem_append_right _ h))) (by decide +kernel))) (goodIn_sub (fun _ h => List.mem_cons_of_mem _ (List.mem_append_right _ h)) (by decide +kernel))
set_option maxRecDepth 20000 in
theorem gX7_turn_X7_sights : GoodIn wsX7_turn (wsV RX7 127 RX7 yX7_sights wsX7_sights) := goodIn_app (goodIn_of _ (by decide +kernel)) ggX7_turn_X7_sights
set_option maxRecDepth 20000 in
theorem ggX7_cellOf_X7_noUnit : GoodIn wsX7_cellOf wsX7_noUnit := goodIn_r _ [6, 7, 8, 9, 10, 5, 11, 12, 13, 14, 15, 16, 17, 18, 19, 20, 21, 22, 23, 24, 25, 26, 27, 28, 29, 30, 31, 32] (by decide +kernel) (by decide +kernel)
set_option maxRecDepth 20000 in
theorem gX7_cellOf_X7_noUnit : GoodIn wsX7_cellOf (wsV RX7 87 RX7 yX7_noUnit wsX7_noUnit) := goodIn_app (goodIn_of _ (by decide +kernel)) ggX7_cellOf_X7_noUnit
set_option maxRecDepth 20000 in
theorem ggX7_unitOn_X7_isCell : GoodIn wsX7_unitOn wsX7_isCell := goodIn_r _ [4] (by decide +kernel) (by decide +kernel)
set_option maxRecDepth 20000 in
theorem gX7_unitOn_X7_isCell : GoodIn wsX7_unitOn (va_wsS RX7 72 yX7_isCell wsX7_isCell) := goodIn_app (goodIn_of _ (by decide +kernel)) ggX7_unitOn_X7_isCell
set_option maxRecDepth 20000 in
theorem ggX7_unitOn_X7_no : GoodIn wsX7_unitOn wsX7_no := goodIn_r _ [8, 9, 16, 17, 18, 19, 20, 21, 22, 23, 24, 25, 26, 27, 28, 29, 30, 31, 32, 33, 34, 35] (by decide +kernel) (by decide +kernel)
set_option maxRecDepth 20000 in
theorem gX7_unitOn_X7_no : GoodIn wsX7_unitOn (wsV RX7 61 RX7 yX7_no wsX7_no) := goodIn_app (goodIn_of _ (by decide +kernel)) ggX7_unitOn_X7_no
set_option maxRecDepth 20000 in
theorem ggX7_unitOn_X7_on : GoodIn wsX7_unitOn wsX7_on := goodIn_ca (goodIn_r _ [13, 14, 15, 16, 17, 18, 19, 20, 21, 22, 23, 24, 25, 26, 27, 28, 29, 30, 31, 32, 33, 34, 35] (by decide +kernel) (by decide +kernel)) (goodIn_sub (fun _ h => List.mem_cons_of_mem _ (List.mem_append_right _ h)) (by decide +kernel))
set_option maxRecDepth 20000 in
theorem gX7_unitOn_X7_on : GoodIn wsX7_unitOn (wsV RX7 80 RX7 yX7_on wsX7_on) := goodIn_app (goodIn_of _ (by decide +kernel)) ggX7_unitOn_X7_on
set_option maxRecDepth 20000 in
theorem ggX7_looksAt_X7_groundOf : GoodIn wsX7_looksAt wsX7_groundOf := goodIn_r _ [14, 15, 16, 20, 21, 22, 23, 24, 25, 26, 27, 28, 29, 30, 31, 32, 33, 34, 35, 36, 37, 38, 39] (by decide +kernel) (by decide +kernel)
set_option maxRecDepth 20000 in
theorem gX7_looksAt_X7_groundOf : GoodIn wsX7_looksAt (wsV RX7 76 RX7 yX7_groundOf wsX7_groundOf) := goodIn_app (goodIn_of _ (by decide +kernel)) ggX7_looksAt_X7_groundOf
set_option maxRecDepth 20000 in
theorem ggX7_looksAt_X7_part : GoodIn wsX7_looksAt wsX7_part := goodIn_ca (goodIn_r _ [19] (by decide +kernel) (by decide +kernel)) (goodIn_sub (fun _ h => List.mem_cons_of_mem _ (List.mem_append_right _ h)) (by decide +kernel))
set_option maxRecDepth 20000 in
theorem gX7_looksAt_X7_part : GoodIn wsX7_looksAt (va_wsS RX7 138 yX7_part wsX7_part) := goodIn_app (goodIn_of _ (by decide +kernel)) ggX7_looksAt_X7_part
set_option maxRecDepth 20000 in
theorem ggX7_sees_X7_isCell : GoodIn wsX7_sees wsX7_isCell := goodIn_r _ [5] (by decide +kernel) (by decide +kernel)
set_option maxRecDepth 20000 in
theorem gX7_sees_X7_isCell : GoodIn wsX7_sees (va_wsS RX7 72 yX7_isCell wsX7_isCell) := goodIn_app (goodIn_of _ (by decide +kernel)) ggX7_sees_X7_isCell
set_option maxRecDepth 20000 in
theorem ggX7_sees_X7_no : GoodIn wsX7_sees wsX7_no := goodIn_r _ [9, 10, 33, 34, 35, 36, 37, 38, 39, 40, 41, 42, 43, 44, 45, 46, 47, 48, 49, 50, 51, 52] (by decide +kernel) (by decide +kernel)
set_option maxRecDepth 20000 in
theorem gX7_sees_X7_no : GoodIn wsX7_sees (wsV RX7 61 RX7 yX7_no wsX7_no) := goodIn_app (goodIn_of _ (by decide +kernel)) ggX7_sees_X7_no
set_option maxRecDepth 20000 in
theorem ggX7_sees_X7_looksAt : GoodIn wsX7_sees wsX7_looksAt := goodIn_ca (goodIn_ca (goodIn_r _ [14, 15, 16, 17, 18, 19, 20, 21, 22, 23, 24, 25, 26, 4, 27, 28, 29, 30, 31, 32, 33, 34, 35, 36, 37, 38, 39, 40, 41, 42, 43, 44, 45, 46, 47, 48, 49, 50, 51, 52] (by decide +kernel) (by decide +kernel)) (goodIn_sub (fun _ h => List.mem_cons_of_mem _ (List.mem_append_left _ (List.mem_append_right _ h))) (by decide +kernel))) (goodIn_sub (fun _ h => List.mem_cons_of_mem _ (List.mem_append_right _ h)) (by decide +kernel))
set_option maxRecDepth 20000 in
theorem gX7_sees_X7_looksAt : GoodIn wsX7_sees (wsV RX7 142 RX7 yX7_looksAt wsX7_looksAt) := goodIn_app (goodIn_of _ (by decide +kernel)) ggX7_sees_X7_looksAt
set_option maxRecDepth 20000 in
theorem ggX7_watches_X7_looksAt : GoodIn wsX7_watches wsX7_looksAt := goodIn_ca (goodIn_ca (goodIn_r _ [7, 8, 9, 10, 11, 12, 13, 14, 15, 16, 17, 18, 19, 6, 20, 21, 22, 23, 24, 25, 26, 27, 28, 29, 30, 31, 32, 33, 34, 35, 36, 37, 38, 39, 40, 41, 42, 43, 44, 45] (by decide +kernel) (by decide +kernel)) (goodIn_sub (fun _ h => List.mem_cons_of_mem _ (List.mem_append_left _ (List.mem_append_right _ h))) (by decide +kernel))) (goodIn_sub (fun _ h => List.mem_cons_of_mem _ (List.mem_append_right _ h)) (by decide +kernel))
set_option maxRecDepth 20000 in
theorem gX7_watches_X7_looksAt : GoodIn wsX7_watches (wsV RX7 142 RX7 yX7_looksAt wsX7_looksAt) := goodIn_app (goodIn_of _ (by decide +kernel)) ggX7_watches_X7_looksAt
set_option maxRecDepth 20000 in
theorem ggX7_seen_X7_noPlayer : GoodIn wsX7_seen wsX7_noPlayer := goodIn_r _ [5, 6, 7, 8, 4, 9, 10, 39, 40, 41, 42, 43, 44, 45, 46, 47, 48, 49, 50, 51, 52, 53, 54, 55, 56, 57, 58] (by decide +kernel) (by decide +kernel)
set_option maxRecDepth 20000 in
theorem gX7_seen_X7_noPlayer : GoodIn wsX7_seen (wsV RX7 146 RX7 yX7_noPlayer wsX7_noPlayer) := goodIn_app (goodIn_of _ (by decide +kernel)) ggX7_seen_X7_noPlayer
set_option maxRecDepth 20000 in
theorem ggX7_seen_X7_watches : GoodIn wsX7_seen wsX7_watches := goodIn_ca (goodIn_ca (goodIn_r _ [14, 15, 16, 17, 18, 19, 4, 20, 21, 22, 23, 24, 25, 26, 27, 28, 29, 30, 31, 32, 33, 34, 35, 36, 37, 38, 39, 40, 41, 42, 43, 44, 45, 46, 47, 48, 49, 50, 51, 52, 53, 54, 55, 56, 57, 58] (by decide +kernel) (by decide +kernel)) (goodIn_sub (fun _ h => List.mem_cons_of_mem _ (List.mem_append_left _ (List.mem_append_right _ h))) (by decide +kernel))) (goodIn_sub (fun _ h => List.mem_cons_of_mem _ (List.mem_append_right _ h)) (by decide +kernel))
set_option maxRecDepth 20000 in
theorem gX7_seen_X7_watches : GoodIn wsX7_seen (wsV RX7 149 RX7 yX7_watches wsX7_watches) := goodIn_app (goodIn_of _ (by decide +kernel)) ggX7_seen_X7_watches
set_option maxRecDepth 20000 in
theorem ggX7_adds_X7_turnOf : GoodIn wsX7_adds wsX7_turnOf := goodIn_r _ [6, 7] (by decide +kernel) (by decide +kernel)
set_option maxRecDepth 20000 in
theorem gX7_adds_X7_turnOf : GoodIn wsX7_adds (va_wsS RX7 153 yX7_turnOf wsX7_turnOf) := goodIn_app (goodIn_of _ (by decide +kernel)) ggX7_adds_X7_turnOf
set_option maxRecDepth 20000 in
theorem ggX7_adds_X7_unitIn : GoodIn wsX7_adds wsX7_unitIn := goodIn_r _ [10] (by decide +kernel) (by decide +kernel)
set_option maxRecDepth 20000 in
theorem gX7_adds_X7_unitIn : GoodIn wsX7_adds (va_wsS RX7 156 yX7_unitIn wsX7_unitIn) := goodIn_app (goodIn_of _ (by decide +kernel)) ggX7_adds_X7_unitIn
set_option maxRecDepth 20000 in
theorem ggX7_adds_X7_isBehind : GoodIn wsX7_adds wsX7_isBehind := goodIn_r _ [13, 3, 4, 5, 6, 7, 8, 9, 10] (by decide +kernel) (by decide +kernel)
set_option maxRecDepth 20000 in
theorem gX7_adds_X7_isBehind : GoodIn wsX7_adds (va_wsS RX7 159 yX7_isBehind wsX7_isBehind) := goodIn_app (goodIn_of _ (by decide +kernel)) ggX7_adds_X7_isBehind
set_option maxRecDepth 20000 in
theorem ggX7_isBehind_X7_turnOf : GoodIn wsX7_isBehind wsX7_turnOf := goodIn_r _ [4, 5] (by decide +kernel) (by decide +kernel)
set_option maxRecDepth 20000 in
theorem gX7_isBehind_X7_turnOf : GoodIn wsX7_isBehind (va_wsS RX7 153 yX7_turnOf wsX7_turnOf) := goodIn_app (goodIn_of _ (by decide +kernel)) ggX7_isBehind_X7_turnOf
set_option maxRecDepth 20000 in
theorem ggX7_isBehind_X7_unitIn : GoodIn wsX7_isBehind wsX7_unitIn := goodIn_r _ [8] (by decide +kernel) (by decide +kernel)
set_option maxRecDepth 20000 in
theorem gX7_isBehind_X7_unitIn : GoodIn wsX7_isBehind (va_wsS RX7 156 yX7_unitIn wsX7_unitIn) := goodIn_app (goodIn_of _ (by decide +kernel)) ggX7_isBehind_X7_unitIn
set_option maxRecDepth 20000 in
theorem ggX7_sights_X7_isSighted : GoodIn wsX7_sights wsX7_isSighted := goodIn_ca (goodIn_ca (goodIn_r _ [8, 9, 3, 10, 11, 12, 7, 13, 1, 14, 15, 16, 17, 18, 19, 20, 21, 22, 23, 24, 25, 26, 27, 28, 29, 30, 31, 32, 33, 34, 56, 57, 58, 59, 60, 61, 62, 63, 64, 65, 66, 67, 68, 69, 70, 71, 72, 73, 74, 75] (by decide +kernel) (by decide +kernel)) (goodIn_sub (fun _ h => List.mem_cons_of_mem _ (List.mem_append_left _ (List.mem_append_right _ h))) (by decide +kernel))) (goodIn_sub (fun _ h => List.mem_cons_of_mem _ (List.mem_append_right _ h)) (by decide +kernel))
set_option maxRecDepth 20000 in
theorem gX7_sights_X7_isSighted : GoodIn wsX7_sights (wsV RX7 162 RX7 yX7_isSighted wsX7_isSighted) := goodIn_app (goodIn_of _ (by decide +kernel)) ggX7_sights_X7_isSighted
set_option maxRecDepth 20000 in
theorem ggX7_sights_X7_numberOf : GoodIn wsX7_sights wsX7_numberOf := goodIn_ca (goodIn_r _ [38, 39, 40, 9, 56, 57, 58, 59, 60, 61, 62, 63, 64, 65, 66, 67, 68, 69, 70, 71, 72, 73, 74, 75] (by decide +kernel) (by decide +kernel)) (goodIn_sub (fun _ h => List.mem_cons_of_mem _ (List.mem_append_left _ (List.mem_append_right _ h))) (by decide +kernel))
set_option maxRecDepth 20000 in
theorem gX7_sights_X7_numberOf : GoodIn wsX7_sights (wsV RX7 165 RX7 yX7_numberOf wsX7_numberOf) := goodIn_app (goodIn_of _ (by decide +kernel)) ggX7_sights_X7_numberOf
set_option maxRecDepth 20000 in
theorem ggX7_sights_X7_adds : GoodIn wsX7_sights wsX7_adds := goodIn_ca (goodIn_r _ [44, 45, 46, 47, 48, 7, 49, 39, 50, 51, 52, 53, 54, 55, 56, 57, 58, 59, 60, 61, 62, 63, 64, 65, 66, 67, 68, 69, 70, 71, 72, 73, 74, 75] (by decide +kernel) (by decide +kernel)) (goodIn_sub (fun _ h => List.mem_cons_of_mem _ (List.mem_append_left _ (List.mem_append_right _ h))) (by decide +kernel))
set_option maxRecDepth 20000 in
theorem gX7_sights_X7_adds : GoodIn wsX7_sights (wsV RX7 168 RX7 yX7_adds wsX7_adds) := goodIn_app (goodIn_of _ (by decide +kernel)) ggX7_sights_X7_adds
set_option maxRecDepth 20000 in
theorem ggX7_isSighted_X7_watches : GoodIn wsX7_isSighted wsX7_watches := goodIn_ca (goodIn_ca (goodIn_r _ [7, 8, 2, 9, 10, 11, 6, 12, 1, 13, 14, 15, 16, 17, 18, 19, 20, 21, 22, 23, 24, 25, 26, 27, 28, 29, 30, 31, 32, 33, 34, 35, 36, 37, 38, 39, 40, 41, 42, 43, 44, 45, 46, 47, 48, 49] (by decide +kernel) (by decide +kernel)) (goodIn_sub (fun _ h => List.mem_cons_of_mem _ (List.mem_append_left _ (List.mem_append_right _ h))) (by decide +kernel))) (goodIn_sub (fun _ h => List.mem_cons_of_mem _ (List.mem_append_right _ h)) (by decide +kernel))
set_option maxRecDepth 20000 in
theorem gX7_isSighted_X7_watches : GoodIn wsX7_isSighted (wsV RX7 149 RX7 yX7_watches wsX7_watches) := goodIn_app (goodIn_of _ (by decide +kernel)) ggX7_isSighted_X7_watches
set_option maxRecDepth 20000 in
theorem ggX7_setTreaty_X7_no : GoodIn wsX7_setTreaty wsX7_no := goodIn_r _ [7, 8, 9, 10, 11, 12, 13, 14, 15, 16, 17, 18, 19, 20, 21, 22, 23, 24, 25, 26, 27, 28] (by decide +kernel) (by decide +kernel)
set_option maxRecDepth 20000 in
theorem gX7_setTreaty_X7_no : GoodIn wsX7_setTreaty (wsV RX7 61 RX7 yX7_no wsX7_no) := goodIn_app (goodIn_of _ (by decide +kernel)) ggX7_setTreaty_X7_no
set_option maxRecDepth 20000 in
theorem ggX7_sightings_X7_noPlayer : GoodIn wsX7_sightings wsX7_noPlayer := goodIn_r _ [6, 7, 8, 9, 5, 10, 11, 12, 13, 14, 15, 16, 17, 18, 19, 20, 21, 22, 23, 24, 25, 26, 27, 28, 29, 30, 31] (by decide +kernel) (by decide +kernel)
set_option maxRecDepth 20000 in
theorem gX7_sightings_X7_noPlayer : GoodIn wsX7_sightings (wsV RX7 146 RX7 yX7_noPlayer wsX7_noPlayer) := goodIn_app (goodIn_of _ (by decide +kernel)) ggX7_sightings_X7_noPlayer
set_option maxRecDepth 20000 in
theorem ggX7_sighting_X7_no : GoodIn wsX7_sighting wsX7_no := goodIn_r _ [7, 8, 19, 20, 21, 22, 23, 24, 25, 26, 27, 28, 29, 30, 31, 32, 33, 34, 35, 36, 37, 38] (by decide +kernel) (by decide +kernel)
set_option maxRecDepth 20000 in
theorem gX7_sighting_X7_no : GoodIn wsX7_sighting (wsV RX7 61 RX7 yX7_no wsX7_no) := goodIn_app (goodIn_of _ (by decide +kernel)) ggX7_sighting_X7_no
set_option maxRecDepth 20000 in
theorem ggX7_sighting_X7_turnOf : GoodIn wsX7_sighting wsX7_turnOf := goodIn_r _ [11, 12] (by decide +kernel) (by decide +kernel)
set_option maxRecDepth 20000 in
theorem gX7_sighting_X7_turnOf : GoodIn wsX7_sighting (va_wsS RX7 153 yX7_turnOf wsX7_turnOf) := goodIn_app (goodIn_of _ (by decide +kernel)) ggX7_sighting_X7_turnOf
set_option maxRecDepth 20000 in
theorem ggX7_sighting_X7_cellIn : GoodIn wsX7_sighting wsX7_cellIn := goodIn_r _ [15] (by decide +kernel) (by decide +kernel)
set_option maxRecDepth 20000 in
theorem gX7_sighting_X7_cellIn : GoodIn wsX7_sighting (va_wsS RX7 171 yX7_cellIn wsX7_cellIn) := goodIn_app (goodIn_of _ (by decide +kernel)) ggX7_sighting_X7_cellIn
set_option maxRecDepth 20000 in
theorem ggX7_sighting_X7_unitIn : GoodIn wsX7_sighting wsX7_unitIn := goodIn_r _ [18] (by decide +kernel) (by decide +kernel)
set_option maxRecDepth 20000 in
theorem gX7_sighting_X7_unitIn : GoodIn wsX7_sighting (va_wsS RX7 156 yX7_unitIn wsX7_unitIn) := goodIn_app (goodIn_of _ (by decide +kernel)) ggX7_sighting_X7_unitIn
set_option maxRecDepth 20000 in
theorem ggX7_age_X7_isCell : GoodIn wsX7_age wsX7_isCell := goodIn_r _ [7] (by decide +kernel) (by decide +kernel)
set_option maxRecDepth 20000 in
theorem gX7_age_X7_isCell : GoodIn wsX7_age (va_wsS RX7 72 yX7_isCell wsX7_isCell) := goodIn_app (goodIn_of _ (by decide +kernel)) ggX7_age_X7_isCell
set_option maxRecDepth 20000 in
theorem ggX7_age_X7_no : GoodIn wsX7_age wsX7_no := goodIn_r _ [11, 12, 20, 21, 22, 23, 24, 25, 26, 27, 28, 29, 30, 31, 32, 33, 34, 35, 36, 37, 38, 39] (by decide +kernel) (by decide +kernel)
set_option maxRecDepth 20000 in
theorem gX7_age_X7_no : GoodIn wsX7_age (wsV RX7 61 RX7 yX7_no wsX7_no) := goodIn_app (goodIn_of _ (by decide +kernel)) ggX7_age_X7_no
set_option maxRecDepth 20000 in
theorem ggX7_age_X7_cellIn : GoodIn wsX7_age wsX7_cellIn := goodIn_r _ [15] (by decide +kernel) (by decide +kernel)
set_option maxRecDepth 20000 in
theorem gX7_age_X7_cellIn : GoodIn wsX7_age (va_wsS RX7 171 yX7_cellIn wsX7_cellIn) := goodIn_app (goodIn_of _ (by decide +kernel)) ggX7_age_X7_cellIn
set_option maxRecDepth 20000 in
theorem ggX7_age_X7_turnOf : GoodIn wsX7_age wsX7_turnOf := goodIn_r _ [18, 19] (by decide +kernel) (by decide +kernel)
set_option maxRecDepth 20000 in
theorem gX7_age_X7_turnOf : GoodIn wsX7_age (va_wsS RX7 153 yX7_turnOf wsX7_turnOf) := goodIn_app (goodIn_of _ (by decide +kernel)) ggX7_age_X7_turnOf
set_option maxRecDepth 20000 in
theorem ggX7_lastSeen_X7_no : GoodIn wsX7_lastSeen wsX7_no := goodIn_r _ [8, 9, 16, 17, 18, 19, 20, 21, 22, 23, 24, 25, 26, 27, 28, 29, 30, 31, 32, 33, 34, 35] (by decide +kernel) (by decide +kernel)
set_option maxRecDepth 20000 in
theorem gX7_lastSeen_X7_no : GoodIn wsX7_lastSeen (wsV RX7 61 RX7 yX7_no wsX7_no) := goodIn_app (goodIn_of _ (by decide +kernel)) ggX7_lastSeen_X7_no
set_option maxRecDepth 20000 in
theorem ggX7_lastSeen_X7_unitIn : GoodIn wsX7_lastSeen wsX7_unitIn := goodIn_r _ [12] (by decide +kernel) (by decide +kernel)
set_option maxRecDepth 20000 in
theorem gX7_lastSeen_X7_unitIn : GoodIn wsX7_lastSeen (va_wsS RX7 156 yX7_unitIn wsX7_unitIn) := goodIn_app (goodIn_of _ (by decide +kernel)) ggX7_lastSeen_X7_unitIn
set_option maxRecDepth 20000 in
theorem ggX7_lastSeen_X7_cellIn : GoodIn wsX7_lastSeen wsX7_cellIn := goodIn_r _ [15] (by decide +kernel) (by decide +kernel)
set_option maxRecDepth 20000 in
theorem gX7_lastSeen_X7_cellIn : GoodIn wsX7_lastSeen (va_wsS RX7 171 yX7_cellIn wsX7_cellIn) := goodIn_app (goodIn_of _ (by decide +kernel)) ggX7_lastSeen_X7_cellIn
set_option maxRecDepth 20000 in
theorem ggX7_noSave_X7_noPlayer : GoodIn wsX7_noSave wsX7_noPlayer := goodIn_r _ [6, 7, 8, 9, 5, 10, 11, 12, 13, 14, 15, 16, 17, 18, 19, 20, 21, 22, 23, 24, 25, 26, 27, 28, 29, 30, 31] (by decide +kernel) (by decide +kernel)
set_option maxRecDepth 20000 in
theorem gX7_noSave_X7_noPlayer : GoodIn wsX7_noSave (wsV RX7 146 RX7 yX7_noPlayer wsX7_noPlayer) := goodIn_app (goodIn_of _ (by decide +kernel)) ggX7_noSave_X7_noPlayer
set_option maxRecDepth 20000 in
theorem ggX7_noSave_X7_no : GoodIn wsX7_noSave wsX7_no := goodIn_r _ [10, 11, 12, 13, 14, 15, 16, 17, 18, 19, 20, 21, 22, 23, 24, 25, 26, 27, 28, 29, 30, 31] (by decide +kernel) (by decide +kernel)
set_option maxRecDepth 20000 in
theorem gX7_noSave_X7_no : GoodIn wsX7_noSave (wsV RX7 61 RX7 yX7_no wsX7_no) := goodIn_app (goodIn_of _ (by decide +kernel)) ggX7_noSave_X7_no
set_option maxRecDepth 20000 in
theorem ggX7_blocks_X7_noSave : GoodIn wsX7_blocks wsX7_noSave := goodIn_r _ [5, 6, 7, 8, 9, 4, 10, 11, 12, 13, 14, 15, 21, 22, 23, 24, 25, 26, 27, 28, 29, 30, 31, 32, 33, 34, 35, 36, 37, 38, 39, 40] (by decide +kernel) (by decide +kernel)
set_option maxRecDepth 20000 in
theorem gX7_blocks_X7_noSave : GoodIn wsX7_blocks (wsV RX7 178 RX7 yX7_noSave wsX7_noSave) := goodIn_app (goodIn_of _ (by decide +kernel)) ggX7_blocks_X7_noSave
set_option maxRecDepth 20000 in
theorem ggX7_blocks_X7_blocksOf : GoodIn wsX7_blocks wsX7_blocksOf := goodIn_ca (goodIn_r _ [19, 20, 21, 22, 23, 24, 25, 26, 27, 28, 29, 30, 31, 32, 33, 34, 35, 36, 37, 38, 39, 40] (by decide +kernel) (by decide +kernel)) (goodIn_sub (fun _ h => List.mem_cons_of_mem _ (List.mem_append_right _ h)) (by decide +kernel))
set_option maxRecDepth 20000 in
theorem gX7_blocks_X7_blocksOf : GoodIn wsX7_blocks (wsV RX7 181 RX7 yX7_blocksOf wsX7_blocksOf) := goodIn_app (goodIn_of _ (by decide +kernel)) ggX7_blocks_X7_blocksOf
set_option maxRecDepth 20000 in
theorem ggX7_breakBlock_X7_noSave : GoodIn wsX7_breakBlock wsX7_noSave := goodIn_r _ [6, 7, 8, 9, 10, 5, 11, 12, 13, 14, 15, 16, 22, 23, 24, 25, 26, 27, 28, 29, 30, 31, 32, 33, 34, 35, 36, 37, 38, 39, 40, 41] (by decide +kernel) (by decide +kernel)
set_option maxRecDepth 20000 in
theorem gX7_breakBlock_X7_noSave : GoodIn wsX7_breakBlock (wsV RX7 178 RX7 yX7_noSave wsX7_noSave) := goodIn_app (goodIn_of _ (by decide +kernel)) ggX7_breakBlock_X7_noSave
set_option maxRecDepth 20000 in
theorem ggX7_breakBlock_X7_blocksOf : GoodIn wsX7_breakBlock wsX7_blocksOf := goodIn_ca (goodIn_r _ [20, 21, 22, 23, 24, 25, 26, 27, 28, 29, 30, 31, 32, 33, 34, 35, 36, 37, 38, 39, 40, 41] (by decide +kernel) (by decide +kernel)) (goodIn_sub (fun _ h => List.mem_cons_of_mem _ (List.mem_append_right _ h)) (by decide +kernel))
set_option maxRecDepth 20000 in
theorem gX7_breakBlock_X7_blocksOf : GoodIn wsX7_breakBlock (wsV RX7 181 RX7 yX7_blocksOf wsX7_blocksOf) := goodIn_app (goodIn_of _ (by decide +kernel)) ggX7_breakBlock_X7_blocksOf
set_option maxRecDepth 20000 in
theorem ggX7_breakBlock_X7_no : GoodIn wsX7_breakBlock wsX7_no := goodIn_r _ [15, 16, 22, 23, 24, 25, 26, 27, 28, 29, 30, 31, 32, 33, 34, 35, 36, 37, 38, 39, 40, 41] (by decide +kernel) (by decide +kernel)
set_option maxRecDepth 20000 in
theorem gX7_breakBlock_X7_no : GoodIn wsX7_breakBlock (wsV RX7 61 RX7 yX7_no wsX7_no) := goodIn_app (goodIn_of _ (by decide +kernel)) ggX7_breakBlock_X7_no
set_option maxRecDepth 20000 in
theorem ggX7_savedAt_X7_noSave : GoodIn wsX7_savedAt wsX7_noSave := goodIn_r _ [8, 9, 10, 11, 12, 7, 13, 14, 15, 16, 17, 18, 19, 20, 21, 22, 23, 24, 25, 26, 27, 28, 29, 30, 31, 32, 33, 34, 35, 36, 37, 38] (by decide +kernel) (by decide +kernel)
set_option maxRecDepth 20000 in
theorem gX7_savedAt_X7_noSave : GoodIn wsX7_savedAt (wsV RX7 178 RX7 yX7_noSave wsX7_noSave) := goodIn_app (goodIn_of _ (by decide +kernel)) ggX7_savedAt_X7_noSave
set_option maxRecDepth 20000 in
theorem ggX7_savedAt_X7_no : GoodIn wsX7_savedAt wsX7_no := goodIn_r _ [17, 18, 19, 20, 21, 22, 23, 24, 25, 26, 27, 28, 29, 30, 31, 32, 33, 34, 35, 36, 37, 38] (by decide +kernel) (by decide +kernel)
set_option maxRecDepth 20000 in
theorem gX7_savedAt_X7_no : GoodIn wsX7_savedAt (wsV RX7 61 RX7 yX7_no wsX7_no) := goodIn_app (goodIn_of _ (by decide +kernel)) ggX7_savedAt_X7_no
set_option maxRecDepth 20000 in
theorem ggX7_repair_X7_noSave : GoodIn wsX7_repair wsX7_noSave := goodIn_r _ [6, 7, 8, 9, 10, 5, 11, 12, 13, 14, 15, 16, 28, 29, 30, 31, 32, 33, 34, 35, 36, 37, 38, 39, 40, 41, 42, 43, 44, 45, 46, 47] (by decide +kernel) (by decide +kernel)
set_option maxRecDepth 20000 in
theorem gX7_repair_X7_noSave : GoodIn wsX7_repair (wsV RX7 178 RX7 yX7_noSave wsX7_noSave) := goodIn_app (goodIn_of _ (by decide +kernel)) ggX7_repair_X7_noSave
set_option maxRecDepth 20000 in
theorem ggX7_repair_X7_blocksOf : GoodIn wsX7_repair wsX7_blocksOf := goodIn_ca (goodIn_r _ [20, 21, 28, 29, 30, 31, 32, 33, 34, 35, 36, 37, 38, 39, 40, 41, 42, 43, 44, 45, 46, 47] (by decide +kernel) (by decide +kernel)) (goodIn_sub (fun _ h => List.mem_cons_of_mem _ (List.mem_append_right _ h)) (by decide +kernel))
set_option maxRecDepth 20000 in
theorem gX7_repair_X7_blocksOf : GoodIn wsX7_repair (wsV RX7 181 RX7 yX7_blocksOf wsX7_blocksOf) := goodIn_app (goodIn_of _ (by decide +kernel)) ggX7_repair_X7_blocksOf
set_option maxRecDepth 20000 in
theorem ggX7_repair_X7_canRebuild : GoodIn wsX7_repair wsX7_canRebuild := goodIn_ca (goodIn_r _ [25, 26, 27, 1, 28, 29, 30, 31, 32, 33, 34, 35, 36, 37, 38, 39, 40, 41, 42, 43, 44, 45, 46, 47] (by decide +kernel) (by decide +kernel)) (goodIn_sub (fun _ h => List.mem_cons_of_mem _ (List.mem_append_right _ h)) (by decide +kernel))
set_option maxRecDepth 20000 in
theorem gX7_repair_X7_canRebuild : GoodIn wsX7_repair (wsV RX7 184 RX7 yX7_canRebuild wsX7_canRebuild) := goodIn_app (goodIn_of _ (by decide +kernel)) ggX7_repair_X7_canRebuild
set_option maxRecDepth 20000 in
theorem ggX7_load_X7_noSave : GoodIn wsX7_load wsX7_noSave := goodIn_r _ [10, 11, 12, 13, 14, 9, 15, 16, 17, 18, 19, 20, 25, 26, 27, 28, 29, 30, 31, 32, 33, 34, 35, 36, 37, 38, 39, 40, 41, 42, 43, 44] (by decide +kernel) (by decide +kernel)
set_option maxRecDepth 20000 in
theorem gX7_load_X7_noSave : GoodIn wsX7_load (wsV RX7 178 RX7 yX7_noSave wsX7_noSave) := goodIn_app (goodIn_of _ (by decide +kernel)) ggX7_load_X7_noSave
set_option maxRecDepth 20000 in
theorem ggX7_load_X7_blocksOf : GoodIn wsX7_load wsX7_blocksOf := goodIn_ca (goodIn_r _ [24, 5, 25, 26, 27, 28, 29, 30, 31, 32, 33, 34, 35, 36, 37, 38, 39, 40, 41, 42, 43, 44] (by decide +kernel) (by decide +kernel)) (goodIn_sub (fun _ h => List.mem_cons_of_mem _ (List.mem_append_right _ h)) (by decide +kernel))
set_option maxRecDepth 20000 in
theorem gX7_load_X7_blocksOf : GoodIn wsX7_load (wsV RX7 181 RX7 yX7_blocksOf wsX7_blocksOf) := goodIn_app (goodIn_of _ (by decide +kernel)) ggX7_load_X7_blocksOf
set_option maxRecDepth 20000 in
theorem ggX7_load_X7_no : GoodIn wsX7_load wsX7_no := goodIn_r _ [19, 20, 25, 26, 27, 28, 29, 30, 31, 32, 33, 34, 35, 36, 37, 38, 39, 40, 41, 42, 43, 44] (by decide +kernel) (by decide +kernel)
set_option maxRecDepth 20000 in
theorem gX7_load_X7_no : GoodIn wsX7_load (wsV RX7 61 RX7 yX7_no wsX7_no) := goodIn_app (goodIn_of _ (by decide +kernel)) ggX7_load_X7_no
set_option maxRecDepth 20000 in
theorem ggX7_allies_X7_noSave : GoodIn wsX7_allies wsX7_noSave := goodIn_r _ [6, 7, 8, 9, 10, 5, 11, 12, 13, 14, 15, 16, 17, 18, 19, 20, 21, 22, 23, 24, 25, 26, 27, 28, 29, 30, 31, 32, 33, 34, 35, 36] (by decide +kernel) (by decide +kernel)
set_option maxRecDepth 20000 in
theorem gX7_allies_X7_noSave : GoodIn wsX7_allies (wsV RX7 178 RX7 yX7_noSave wsX7_noSave) := goodIn_app (goodIn_of _ (by decide +kernel)) ggX7_allies_X7_noSave
set_option maxRecDepth 20000 in
theorem ggX7_livingShare_X7_no : GoodIn wsX7_livingShare wsX7_no := goodIn_r _ [6, 7, 13, 14, 15, 16, 17, 18, 19, 20, 21, 22, 23, 24, 25, 26, 27, 28, 29, 30, 31, 32] (by decide +kernel) (by decide +kernel)
set_option maxRecDepth 20000 in
theorem gX7_livingShare_X7_no : GoodIn wsX7_livingShare (wsV RX7 61 RX7 yX7_no wsX7_no) := goodIn_app (goodIn_of _ (by decide +kernel)) ggX7_livingShare_X7_no
set_option maxRecDepth 20000 in
theorem ggX7_livingShare_X7_living : GoodIn wsX7_livingShare wsX7_living := goodIn_ca (goodIn_r _ [11, 1, 12, 13, 14, 15, 16, 17, 18, 19, 20, 21, 22, 23, 24, 25, 26, 27, 28, 29, 30, 31, 32] (by decide +kernel) (by decide +kernel)) (goodIn_sub (fun _ h => List.mem_cons_of_mem _ (List.mem_append_right _ h)) (by decide +kernel))
set_option maxRecDepth 20000 in
theorem gX7_livingShare_X7_living : GoodIn wsX7_livingShare (wsV RX7 121 RX7 yX7_living wsX7_living) := goodIn_app (goodIn_of _ (by decide +kernel)) ggX7_livingShare_X7_living
set_option maxRecDepth 20000 in
theorem ggX7_meanAge_X7_turnOf : GoodIn wsX7_meanAge wsX7_turnOf := goodIn_r _ [7, 8] (by decide +kernel) (by decide +kernel)
set_option maxRecDepth 20000 in
theorem gX7_meanAge_X7_turnOf : GoodIn wsX7_meanAge (va_wsS RX7 153 yX7_turnOf wsX7_turnOf) := goodIn_app (goodIn_of _ (by decide +kernel)) ggX7_meanAge_X7_turnOf
set_option maxRecDepth 20000 in
theorem ggX7_meanAge_X7_no : GoodIn wsX7_meanAge wsX7_no := goodIn_r _ [12, 13, 14, 15, 16, 17, 18, 19, 20, 21, 22, 23, 24, 25, 26, 27, 28, 29, 30, 31, 32, 33] (by decide +kernel) (by decide +kernel)
set_option maxRecDepth 20000 in
theorem gX7_meanAge_X7_no : GoodIn wsX7_meanAge (wsV RX7 61 RX7 yX7_no wsX7_no) := goodIn_app (goodIn_of _ (by decide +kernel)) ggX7_meanAge_X7_no
