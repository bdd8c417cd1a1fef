def V_X6_isCell (x1 : Int32) (post : Int32 → Prop) : Prop := ((x1 < 0 → post 0) ∧ (¬ x1 < 0 → ((64 ≤ x1 → post 0) ∧ (¬ 64 ≤ x1 → post 1))))
abbrev rm_X6_isCell : Room := { frames := 0, cells := 0, slots := 0, locals := 0 }
set_option maxHeartbeats 4000000 in
set_option maxRecDepth 100000 in
theorem c_X6_isCell (l : Launch) (x1 : Int32) (post : Int32 → Prop) (hv : V_X6_isCell x1 post) : uMs l yX6_isCell wsX6_isCell rm_X6_isCell [.int x1] post := by
  refine u_ofS (cc := cX6_isCell) (maxL := 1) (by decide) rfl (Nat.le_of_ble_eq_true rfl) ?_
  intro p e s m args below meth c ls hC hN hr hk hl
  have hx := hC.1; have hb := hC.2.1; have hml := hC.2.2.1; have hts := hC.2.2.2.2
  have hown : s.vm.findClass RX6 = some m.cls := hC.2.2.2.1
  have hl : lv_has ls 1 [(0, .int x1)] := hl
  unfold V_X6_isCell at hv
  refine lv_iload_n hx hb dX6_isCell_0 rfl (lv_at hl 0 rfl) ?_
  refine lv_if_lt (tgt := 14) hx hb dX6_isCell_1 (by decide) (fun c => ?_) (fun c => ?_)
  · have hv := hv.1 c
    refine lv_iconst (v := 0) hx hb dX6_isCell_14 (by decide) ?_
    exact S_iret hC hr hk (by rfl) hv dX6_isCell_15
  · have hv := hv.2 c
    refine lv_iload_n hx hb dX6_isCell_4 rfl (lv_at hl 0 rfl) ?_
    refine lv_bipush (v := 64) hx hb dX6_isCell_5 (by decide) ?_
    refine lv_icmp_ge (tgt := 14) hx hb dX6_isCell_7 (by decide) (fun c => ?_) (fun c => ?_)
    · have hv := hv.1 c
      refine lv_iconst (v := 0) hx hb dX6_isCell_14 (by decide) ?_
      exact S_iret hC hr hk (by rfl) hv dX6_isCell_15
    · have hv := hv.2 c
      refine lv_iconst (v := 1) hx hb dX6_isCell_10 (by decide) ?_
      refine lv_goto (tgt := 15) hx hb dX6_isCell_11 (by decide) ?_
      exact S_iret hC hr hk (by rfl) hv dX6_isCell_15
def V_X6_turnOf (x1 : Int32) (post : Int32 → Prop) : Prop := post (x1 / 100000)
abbrev rm_X6_turnOf : Room := { frames := 0, cells := 0, slots := 0, locals := 0 }
set_option maxHeartbeats 4000000 in
set_option maxRecDepth 100000 in
theorem c_X6_turnOf (l : Launch) (x1 : Int32) (post : Int32 → Prop) (hv : V_X6_turnOf x1 post) : uMs l yX6_turnOf wsX6_turnOf rm_X6_turnOf [.int x1] post := by
  refine u_ofS (cc := cX6_turnOf) (maxL := 1) (by decide) rfl (Nat.le_of_ble_eq_true rfl) ?_
  intro p e s m args below meth c ls hC hN hr hk hl
  have hx := hC.1; have hb := hC.2.1; have hml := hC.2.2.1; have hts := hC.2.2.2.2
  have hown : s.vm.findClass RX6 = some m.cls := hC.2.2.2.1
  have hl : lv_has ls 1 [(0, .int x1)] := hl
  unfold V_X6_turnOf at hv
  refine lv_iload_n hx hb dX6_turnOf_0 rfl (lv_at hl 0 rfl) ?_
  refine lv_ldcw (v := 100000) hx hb hown (hts (.constant RX6 297 (100000)) (List.mem_of_getElem? (i := 1) rfl)) dX6_turnOf_1 ?_
  refine lv_idiv hx hb dX6_turnOf_4 (by decide) ?_
  exact S_iret hC hr hk (by rfl) hv dX6_turnOf_5
def V_X6_placeOf (x1 : Int32) (post : Int32 → Prop) : Prop := post ((x1 - x1 / 100000 * 100000) / 1000)
abbrev rm_X6_placeOf : Room := { frames := 0, cells := 0, slots := 0, locals := 0 }
set_option maxHeartbeats 4000000 in
set_option maxRecDepth 100000 in
theorem c_X6_placeOf (l : Launch) (x1 : Int32) (post : Int32 → Prop) (hv : V_X6_placeOf x1 post) : uMs l yX6_placeOf wsX6_placeOf rm_X6_placeOf [.int x1] post := by
  refine u_ofS (cc := cX6_placeOf) (maxL := 1) (by decide) rfl (Nat.le_of_ble_eq_true rfl) ?_
  intro p e s m args below meth c ls hC hN hr hk hl
  have hx := hC.1; have hb := hC.2.1; have hml := hC.2.2.1; have hts := hC.2.2.2.2
  have hown : s.vm.findClass RX6 = some m.cls := hC.2.2.2.1
  have hl : lv_has ls 1 [(0, .int x1)] := hl
  unfold V_X6_placeOf at hv
  refine lv_iload_n hx hb dX6_placeOf_0 rfl (lv_at hl 0 rfl) ?_
  refine lv_ldcw (v := 100000) hx hb hown (hts (.constant RX6 297 (100000)) (List.mem_of_getElem? (i := 1) rfl)) dX6_placeOf_1 ?_
  refine lv_irem hx hb dX6_placeOf_4 (by decide) ?_
  refine lv_sipush (v := 1000) hx hb dX6_placeOf_5 (by decide) ?_
  refine lv_idiv hx hb dX6_placeOf_8 (by decide) ?_
  exact S_iret hC hr hk (by rfl) hv dX6_placeOf_9
def V_X6_unitOf (x1 : Int32) (post : Int32 → Prop) : Prop := post (x1 - x1 / 1000 * 1000)
abbrev rm_X6_unitOf : Room := { frames := 0, cells := 0, slots := 0, locals := 0 }
set_option maxHeartbeats 4000000 in
set_option maxRecDepth 100000 in
theorem c_X6_unitOf (l : Launch) (x1 : Int32) (post : Int32 → Prop) (hv : V_X6_unitOf x1 post) : uMs l yX6_unitOf wsX6_unitOf rm_X6_unitOf [.int x1] post := by
  refine u_ofS (cc := cX6_unitOf) (maxL := 1) (by decide) rfl (Nat.le_of_ble_eq_true rfl) ?_
  intro p e s m args below meth c ls hC hN hr hk hl
  have hx := hC.1; have hb := hC.2.1; have hml := hC.2.2.1; have hts := hC.2.2.2.2
  have hown : s.vm.findClass RX6 = some m.cls := hC.2.2.2.1
  have hl : lv_has ls 1 [(0, .int x1)] := hl
  unfold V_X6_unitOf at hv
  refine lv_iload_n hx hb dX6_unitOf_0 rfl (lv_at hl 0 rfl) ?_
  refine lv_sipush (v := 1000) hx hb dX6_unitOf_1 (by decide) ?_
  refine lv_irem hx hb dX6_unitOf_4 (by decide) ?_
  exact S_iret hC hr hk (by rfl) hv dX6_unitOf_5
def V_X6_numberFor (x1 : Int32) (x2 : Int32) (x3 : Int32) (post : Int32 → Prop) : Prop := post (((100000 * x1) + (1000 * x2)) + x3)
abbrev rm_X6_numberFor : Room := { frames := 0, cells := 0, slots := 0, locals := 0 }
set_option maxHeartbeats 4000000 in
set_option maxRecDepth 100000 in
theorem c_X6_numberFor (l : Launch) (x1 : Int32) (x2 : Int32) (x3 : Int32) (post : Int32 → Prop) (hv : V_X6_numberFor x1 x2 x3 post) : uMs l yX6_numberFor wsX6_numberFor rm_X6_numberFor [.int x1, .int x2, .int x3] post := by
  refine u_ofS (cc := cX6_numberFor) (maxL := 3) (by decide) rfl (Nat.le_of_ble_eq_true rfl) ?_
  intro p e s m args below meth c ls hC hN hr hk hl
  have hx := hC.1; have hb := hC.2.1; have hml := hC.2.2.1; have hts := hC.2.2.2.2
  have hown : s.vm.findClass RX6 = some m.cls := hC.2.2.2.1
  have hl : lv_has ls 3 [(0, .int x1), (1, .int x2), (2, .int x3)] := hl
  unfold V_X6_numberFor at hv
  refine lv_ldcw (v := 100000) hx hb hown (hts (.constant RX6 297 (100000)) (List.mem_of_getElem? (i := 1) rfl)) dX6_numberFor_0 ?_
  refine lv_iload_n hx hb dX6_numberFor_3 rfl (lv_at hl 0 rfl) ?_
  refine lv_imul hx hb dX6_numberFor_4 ?_
  refine lv_sipush (v := 1000) hx hb dX6_numberFor_5 (by decide) ?_
  refine lv_iload_n hx hb dX6_numberFor_8 rfl (lv_at hl 1 rfl) ?_
  refine lv_imul hx hb dX6_numberFor_9 ?_
  refine lv_iadd hx hb dX6_numberFor_10 ?_
  refine lv_iload_n hx hb dX6_numberFor_11 rfl (lv_at hl 2 rfl) ?_
  refine lv_iadd hx hb dX6_numberFor_12 ?_
  exact S_iret hC hr hk (by rfl) hv dX6_numberFor_13
def V_X2_isBehind (x1 : Int32) (x2 : Int32) (x3 : Int32) (post : Int32 → Prop) : Prop := V_X6_turnOf x1 (fun r1 => ((x2 < r1 → post 1) ∧ (¬ x2 < r1 → V_X6_turnOf x1 (fun r2 => ((¬ r2 = x2 → post 0) ∧ (r2 = x2 → V_X6_unitOf x1 (fun r3 => ((r3 ≤ x3 → post 0) ∧ (¬ r3 ≤ x3 → post 1)))))))))
abbrev rm_X2_isBehind : Room := { frames := 1, cells := 0, slots := 0, locals := 20 }
set_option maxHeartbeats 4000000 in
set_option maxRecDepth 100000 in
theorem c_X2_isBehind (l : Launch) (x1 : Int32) (x2 : Int32) (x3 : Int32) (post : Int32 → Prop) (hv : V_X2_isBehind x1 x2 x3 post) : uMs l yX2_isBehind wsX2_isBehind rm_X2_isBehind [.int x1, .int x2, .int x3] post := by
  refine u_ofS (cc := cX2_isBehind) (maxL := 3) (by decide) rfl (Nat.le_of_ble_eq_true rfl) ?_
  intro p e s m args below meth c ls hC hN hr hk hl
  have hx := hC.1; have hb := hC.2.1; have hml := hC.2.2.1; have hts := hC.2.2.2.2
  have hown : s.vm.findClass RX2 = some m.cls := hC.2.2.2.1
  have hl : lv_has ls 3 [(0, .int x1), (1, .int x2), (2, .int x3)] := hl
  unfold V_X2_isBehind at hv
  refine lv_iload_n hx hb dX2_isBehind_0 rfl (lv_at hl 0 rfl) ?_
  refine G_callNs hC hN (c_X6_turnOf l x1 _ hv) ⟨va_cnB 1 hts gX2_isBehind_X6_turnOf_n30 rfl rfl rfl (hN _ (List.mem_of_getElem? (i := 22) rfl)) (hts _ (List.mem_of_getElem? (i := 2) rfl)) (by decide +kernel) ⟨Nat.le_of_ble_eq_true rfl, Nat.le_of_ble_eq_true rfl⟩, hts _ (List.mem_of_getElem? (i := 1) rfl), trivial⟩ rfl hl rfl (Nat.le_of_ble_eq_true rfl) dX2_isBehind_1 (Nat.zero_le _) (Nat.zero_le _) (fun r1 hv => ?_)
  refine lv_iload_n hx hb dX2_isBehind_4 rfl (lv_at hl 1 rfl) ?_
  refine lv_icmp_gt (tgt := 24) hx hb dX2_isBehind_5 (by decide) (fun c => ?_) (fun c => ?_)
  · have hv := hv.1 c
    refine lv_iconst (v := 1) hx hb dX2_isBehind_24 (by decide) ?_
    refine lv_goto (tgt := 29) hx hb dX2_isBehind_25 (by decide) ?_
    exact S_iret hC hr hk (by rfl) hv dX2_isBehind_29
  · have hv := hv.2 c
    refine lv_iload_n hx hb dX2_isBehind_8 rfl (lv_at hl 0 rfl) ?_
    refine G_callNs hC hN (c_X6_turnOf l x1 _ hv) ⟨va_cnB 1 hts gX2_isBehind_X6_turnOf_n30 rfl rfl rfl (hN _ (List.mem_of_getElem? (i := 22) rfl)) (hts _ (List.mem_of_getElem? (i := 2) rfl)) (by decide +kernel) ⟨Nat.le_of_ble_eq_true rfl, Nat.le_of_ble_eq_true rfl⟩, hts _ (List.mem_of_getElem? (i := 1) rfl), trivial⟩ rfl hl rfl (Nat.le_of_ble_eq_true rfl) dX2_isBehind_9 (Nat.zero_le _) (Nat.zero_le _) (fun r2 hv => ?_)
    refine lv_iload_n hx hb dX2_isBehind_12 rfl (lv_at hl 1 rfl) ?_
    refine lv_icmp_ne (tgt := 28) hx hb dX2_isBehind_13 (by decide) (fun c => ?_) (fun c => ?_)
    · have hv := hv.1 c
      refine lv_iconst (v := 0) hx hb dX2_isBehind_28 (by decide) ?_
      exact S_iret hC hr hk (by rfl) hv dX2_isBehind_29
    · have hv := hv.2 c
      refine lv_iload_n hx hb dX2_isBehind_16 rfl (lv_at hl 0 rfl) ?_
      refine G_callNs hC hN (c_X6_unitOf l x1 _ hv) ⟨va_cnB 1 hts gX2_isBehind_X6_unitOf_n34 rfl rfl rfl (hN _ (List.mem_of_getElem? (i := 23) rfl)) (hts _ (List.mem_of_getElem? (i := 2) rfl)) (by decide +kernel) ⟨Nat.le_of_ble_eq_true rfl, Nat.le_of_ble_eq_true rfl⟩, hts _ (List.mem_of_getElem? (i := 5) rfl), trivial⟩ rfl hl rfl (Nat.le_of_ble_eq_true rfl) dX2_isBehind_17 (Nat.zero_le _) (Nat.zero_le _) (fun r3 hv => ?_)
      refine lv_iload_n hx hb dX2_isBehind_20 rfl (lv_at hl 2 rfl) ?_
      refine lv_icmp_le (tgt := 28) hx hb dX2_isBehind_21 (by decide) (fun c => ?_) (fun c => ?_)
      · have hv := hv.1 c
        refine lv_iconst (v := 0) hx hb dX2_isBehind_28 (by decide) ?_
        exact S_iret hC hr hk (by rfl) hv dX2_isBehind_29
      · have hv := hv.2 c
        refine lv_iconst (v := 1) hx hb dX2_isBehind_24 (by decide) ?_
        refine lv_goto (tgt := 29) hx hb dX2_isBehind_25 (by decide) ?_
        exact S_iret hC hr hk (by rfl) hv dX2_isBehind_29
def V_X3_distance (x1 : Int32) (x2 : Int32) (post : Int32 → Prop) : Prop := post (if (if 0 ≤ ((x2 - x2 / 8 * 8) - (x1 - x1 / 8 * 8)) then ((x2 - x2 / 8 * 8) - (x1 - x1 / 8 * 8)) else 0 - ((x2 - x2 / 8 * 8) - (x1 - x1 / 8 * 8))) < (if 0 ≤ ((x2 / 8) - (x1 / 8)) then ((x2 / 8) - (x1 / 8)) else 0 - ((x2 / 8) - (x1 / 8))) then (if 0 ≤ ((x2 / 8) - (x1 / 8)) then ((x2 / 8) - (x1 / 8)) else 0 - ((x2 / 8) - (x1 / 8))) else (if 0 ≤ ((x2 - x2 / 8 * 8) - (x1 - x1 / 8 * 8)) then ((x2 - x2 / 8 * 8) - (x1 - x1 / 8 * 8)) else 0 - ((x2 - x2 / 8 * 8) - (x1 - x1 / 8 * 8))))
abbrev rm_X3_distance : Room := { frames := 1, cells := 0, slots := 0, locals := 21 }
set_option maxHeartbeats 4000000 in
set_option maxRecDepth 100000 in
theorem c_X3_distance (l : Launch) (x1 : Int32) (x2 : Int32) (post : Int32 → Prop) (hv : V_X3_distance x1 x2 post) : uMs l yX3_distance wsX3_distance rm_X3_distance [.int x1, .int x2] post := by
  refine u_ofS (cc := cX3_distance) (maxL := 4) (by decide) rfl (Nat.le_of_ble_eq_true rfl) ?_
  intro p e s m args below meth c ls hC hN hr hk hl
  have hx := hC.1; have hb := hC.2.1; have hml := hC.2.2.1; have hts := hC.2.2.2.2
  have hown : s.vm.findClass RX3 = some m.cls := hC.2.2.2.1
  have hl : lv_has ls 4 [(0, .int x1), (1, .int x2)] := hl
  unfold V_X3_distance at hv
  refine lv_iload_n hx hb dX3_distance_0 rfl (lv_at hl 1 rfl) ?_
  refine lv_bipush (v := 8) hx hb dX3_distance_1 (by decide) ?_
  refine lv_irem hx hb dX3_distance_3 (by decide) ?_
  refine lv_iload_n hx hb dX3_distance_4 rfl (lv_at hl 0 rfl) ?_
  refine lv_bipush (v := 8) hx hb dX3_distance_5 (by decide) ?_
  refine lv_irem hx hb dX3_distance_7 (by decide) ?_
  refine lv_isub hx hb dX3_distance_8 ?_
  refine va_mabs hx hb (hml.trans hl.1.symm) hown (hts _ (List.mem_of_getElem? (i := 1) rfl)) (hts _ (List.mem_of_getElem? (i := 2) rfl)) (hts _ (List.mem_of_getElem? (i := 3) rfl)) (hts _ (List.mem_of_getElem? (i := 4) rfl)) (Nat.le_of_ble_eq_true rfl) (Nat.le_of_ble_eq_true rfl) (Nat.zero_le _) (Nat.zero_le _) dX3_distance_9 ?_
  refine lv_istore_n (lv' := [(2, .int (if 0 ≤ ((x2 - x2 / 8 * 8) - (x1 - x1 / 8 * 8)) then ((x2 - x2 / 8 * 8) - (x1 - x1 / 8 * 8)) else 0 - ((x2 - x2 / 8 * 8) - (x1 - x1 / 8 * 8)))), (0, .int x1), (1, .int x2)]) hx hb dX3_distance_12 rfl hl (by decide) rfl (fun ls hl => ?_)
  refine lv_iload_n hx hb dX3_distance_13 rfl (lv_at hl 2 rfl) ?_
  refine lv_bipush (v := 8) hx hb dX3_distance_14 (by decide) ?_
  refine lv_idiv hx hb dX3_distance_16 (by decide) ?_
  refine lv_iload_n hx hb dX3_distance_17 rfl (lv_at hl 1 rfl) ?_
  refine lv_bipush (v := 8) hx hb dX3_distance_18 (by decide) ?_
  refine lv_idiv hx hb dX3_distance_20 (by decide) ?_
  refine lv_isub hx hb dX3_distance_21 ?_
  refine va_mabs hx hb (hml.trans hl.1.symm) hown (hts _ (List.mem_of_getElem? (i := 1) rfl)) (hts _ (List.mem_of_getElem? (i := 2) rfl)) (hts _ (List.mem_of_getElem? (i := 3) rfl)) (hts _ (List.mem_of_getElem? (i := 4) rfl)) (Nat.le_of_ble_eq_true rfl) (Nat.le_of_ble_eq_true rfl) (Nat.zero_le _) (Nat.zero_le _) dX3_distance_22 ?_
  refine lv_istore_n (lv' := [(3, .int (if 0 ≤ ((x2 / 8) - (x1 / 8)) then ((x2 / 8) - (x1 / 8)) else 0 - ((x2 / 8) - (x1 / 8)))), (2, .int (if 0 ≤ ((x2 - x2 / 8 * 8) - (x1 - x1 / 8 * 8)) then ((x2 - x2 / 8 * 8) - (x1 - x1 / 8 * 8)) else 0 - ((x2 - x2 / 8 * 8) - (x1 - x1 / 8 * 8)))), (0, .int x1), (1, .int x2)]) hx hb dX3_distance_25 rfl hl (by decide) rfl (fun ls hl => ?_)
  refine lv_iload_n hx hb dX3_distance_26 rfl (lv_at hl 1 rfl) ?_
  refine lv_iload_n hx hb dX3_distance_27 rfl (lv_at hl 0 rfl) ?_
  refine va_mmax hx hb (hml.trans hl.1.symm) hown (hts _ (List.mem_of_getElem? (i := 5) rfl)) (hts _ (List.mem_of_getElem? (i := 6) rfl)) (hts _ (List.mem_of_getElem? (i := 3) rfl)) (hts _ (List.mem_of_getElem? (i := 7) rfl)) (Nat.le_of_ble_eq_true rfl) (Nat.le_of_ble_eq_true rfl) (Nat.zero_le _) (Nat.zero_le _) dX3_distance_28 ?_
  exact S_iret hC hr hk (by rfl) hv dX3_distance_31
def V_X3_share (x1 : Int32) (x2 : Int32) (post : Int32 → Prop) : Prop := ((0 < x2 → (¬ (2 * x2) = 0) ∧ (((0 ≤ x1 → post ((((2 * (if 0 ≤ x1 then x1 else 0 - x1)) + x2) - 1) / (2 * x2))) ∧ (¬ 0 ≤ x1 → post (-((((2 * (if 0 ≤ x1 then x1 else 0 - x1)) + x2) - 1) / (2 * x2))))))) ∧ (¬ 0 < x2 → post 0))
abbrev rm_X3_share : Room := { frames := 1, cells := 0, slots := 0, locals := 21 }
set_option maxHeartbeats 4000000 in
set_option maxRecDepth 100000 in
theorem c_X3_share (l : Launch) (x1 : Int32) (x2 : Int32) (post : Int32 → Prop) (hv : V_X3_share x1 x2 post) : uMs l yX3_share wsX3_share rm_X3_share [.int x1, .int x2] post := by
  refine u_ofS (cc := cX3_share) (maxL := 3) (by decide) rfl (Nat.le_of_ble_eq_true rfl) ?_
  intro p e s m args below meth c ls hC hN hr hk hl
  have hx := hC.1; have hb := hC.2.1; have hml := hC.2.2.1; have hts := hC.2.2.2.2
  have hown : s.vm.findClass RX3 = some m.cls := hC.2.2.2.1
  have hl : lv_has ls 3 [(0, .int x1), (1, .int x2)] := hl
  unfold V_X3_share at hv
  refine lv_iload_n hx hb dX3_share_0 rfl (lv_at hl 1 rfl) ?_
  refine lv_if_gt (tgt := 6) hx hb dX3_share_1 (by decide) (fun c => ?_) (fun c => ?_)
  · have hv := hv.1 c
    refine lv_iconst (v := 2) hx hb dX3_share_6 (by decide) ?_
    refine lv_iload_n hx hb dX3_share_7 rfl (lv_at hl 0 rfl) ?_
    refine va_mabs hx hb (hml.trans hl.1.symm) hown (hts _ (List.mem_of_getElem? (i := 1) rfl)) (hts _ (List.mem_of_getElem? (i := 2) rfl)) (hts _ (List.mem_of_getElem? (i := 3) rfl)) (hts _ (List.mem_of_getElem? (i := 4) rfl)) (Nat.le_of_ble_eq_true rfl) (Nat.le_of_ble_eq_true rfl) (Nat.zero_le _) (Nat.zero_le _) dX3_share_8 ?_
    refine lv_imul hx hb dX3_share_11 ?_
    refine lv_iload_n hx hb dX3_share_12 rfl (lv_at hl 1 rfl) ?_
    refine lv_iadd hx hb dX3_share_13 ?_
    refine lv_iconst (v := 1) hx hb dX3_share_14 (by decide) ?_
    refine lv_isub hx hb dX3_share_15 ?_
    refine lv_iconst (v := 2) hx hb dX3_share_16 (by decide) ?_
    refine lv_iload_n hx hb dX3_share_17 rfl (lv_at hl 1 rfl) ?_
    refine lv_imul hx hb dX3_share_18 ?_
    refine lv_idiv hx hb dX3_share_19 hv.1 ?_
    have hv := hv.2
    refine lv_istore_n (lv' := [(2, .int ((((2 * (if 0 ≤ x1 then x1 else 0 - x1)) + x2) - 1) / (2 * x2))), (0, .int x1), (1, .int x2)]) hx hb dX3_share_20 rfl hl (by decide) rfl (fun ls hl => ?_)
    refine lv_iload_n hx hb dX3_share_21 rfl (lv_at hl 1 rfl) ?_
    refine lv_if_ge (tgt := 30) hx hb dX3_share_22 (by decide) (fun c => ?_) (fun c => ?_)
    · have hv := hv.1 c
      refine lv_iload_n hx hb dX3_share_30 rfl (lv_at hl 0 rfl) ?_
      exact S_iret hC hr hk (by rfl) hv dX3_share_31
    · have hv := hv.2 c
      refine lv_iload_n hx hb dX3_share_25 rfl (lv_at hl 0 rfl) ?_
      refine lv_ineg hx hb dX3_share_26 ?_
      refine lv_goto (tgt := 31) hx hb dX3_share_27 (by decide) ?_
      exact S_iret hC hr hk (by rfl) hv dX3_share_31
  · have hv := hv.2 c
    refine lv_iconst (v := 0) hx hb dX3_share_4 (by decide) ?_
    exact S_iret hC hr hk (by rfl) hv dX3_share_5
def J_X4_spotOf_34 (x1 : Int32) (x2 : Int32) (x3 : Int32) (post : Int32 → Prop)  (v0 : Int32) (v1 : Int32) (v2 : Int32) (t0 : Int32) : Prop := ((t0 = 0 → post (-1)) ∧ (¬ t0 = 0 → post ((((v0 * 24) + v1) * 2) + v2)))
def J_X4_spotOf_33 (x1 : Int32) (x2 : Int32) (x3 : Int32) (post : Int32 → Prop)  (v0 : Int32) (v1 : Int32) (v2 : Int32) : Prop := J_X4_spotOf_34 x1 x2 x3 post v0 v1 v2 0
def V_X4_spotOf (x1 : Int32) (x2 : Int32) (x3 : Int32) (post : Int32 → Prop) : Prop := ((x1 < 0 → J_X4_spotOf_33 x1 x2 x3 post x1 x2 x3) ∧ (¬ x1 < 0 → ((99 < x1 → J_X4_spotOf_33 x1 x2 x3 post x1 x2 x3) ∧ (¬ 99 < x1 → ((x2 < 0 → J_X4_spotOf_33 x1 x2 x3 post x1 x2 x3) ∧ (¬ x2 < 0 → ((24 ≤ x2 → J_X4_spotOf_33 x1 x2 x3 post x1 x2 x3) ∧ (¬ 24 ≤ x2 → ((x3 < 0 → J_X4_spotOf_33 x1 x2 x3 post x1 x2 x3) ∧ (¬ x3 < 0 → ((2 ≤ x3 → J_X4_spotOf_33 x1 x2 x3 post x1 x2 x3) ∧ (¬ 2 ≤ x3 → J_X4_spotOf_34 x1 x2 x3 post x1 x2 x3 1))))))))))))
abbrev rm_X4_spotOf : Room := { frames := 0, cells := 0, slots := 0, locals := 0 }
set_option maxHeartbeats 4000000 in
set_option maxRecDepth 100000 in
theorem c_X4_spotOf (l : Launch) (x1 : Int32) (x2 : Int32) (x3 : Int32) (post : Int32 → Prop) (hv : V_X4_spotOf x1 x2 x3 post) : uMs l yX4_spotOf wsX4_spotOf rm_X4_spotOf [.int x1, .int x2, .int x3] post := by
  refine u_ofS (cc := cX4_spotOf) (maxL := 4) (by decide) rfl (Nat.le_of_ble_eq_true rfl) ?_
  intro p e s m args below meth c ls hC hN hr hk hl
  have hx := hC.1; have hb := hC.2.1; have hml := hC.2.2.1; have hts := hC.2.2.2.2
  have hown : s.vm.findClass RX4 = some m.cls := hC.2.2.2.1
  have hl : lv_has ls 4 [(0, .int x1), (1, .int x2), (2, .int x3)] := hl
  unfold V_X4_spotOf at hv
  have j_34 : ∀ (v0 : Int32) (v1 : Int32) (v2 : Int32) (t0 : Int32), J_X4_spotOf_34 x1 x2 x3 post v0 v1 v2 t0 → ∀ (ls : Array Slot), lv_has ls 4 [(0, .int v0), (1, .int v1), (2, .int v2)] → W p l e rm_X4_spotOf s m args below meth c s.heap [] 0 0 (MQ below (vp_Si post) args s 0 0 (fun _ => False)) (F0 m 34 ls [.int t0]) := by
    intro  v0 v1 v2 t0  hv
    intro ls hl
    unfold J_X4_spotOf_34 at hv
    refine lv_istore_n (lv' := [(3, .int t0), (0, .int v0), (1, .int v1), (2, .int v2)]) hx hb dX4_spotOf_34 rfl hl (by decide) rfl (fun ls hl => ?_)
    refine lv_iload_n hx hb dX4_spotOf_35 rfl (lv_at hl 0 rfl) ?_
    refine lv_if_eq (tgt := 52) hx hb dX4_spotOf_36 (by decide) (fun c => ?_) (fun c => ?_)
    · have hv := hv.1 c
      refine lv_iconst (v := (-1)) hx hb dX4_spotOf_52 (by decide) ?_
      exact S_iret hC hr hk (by rfl) hv dX4_spotOf_53
    · have hv := hv.2 c
      refine lv_iload_n hx hb dX4_spotOf_39 rfl (lv_at hl 1 rfl) ?_
      refine lv_bipush (v := 24) hx hb dX4_spotOf_40 (by decide) ?_
      refine lv_imul hx hb dX4_spotOf_42 ?_
      refine lv_iload_n hx hb dX4_spotOf_43 rfl (lv_at hl 2 rfl) ?_
      refine lv_iadd hx hb dX4_spotOf_44 ?_
      refine lv_iconst (v := 2) hx hb dX4_spotOf_45 (by decide) ?_
      refine lv_imul hx hb dX4_spotOf_46 ?_
      refine lv_iload_n hx hb dX4_spotOf_47 rfl (lv_at hl 3 rfl) ?_
      refine lv_iadd hx hb dX4_spotOf_48 ?_
      refine lv_goto (tgt := 53) hx hb dX4_spotOf_49 (by decide) ?_
      exact S_iret hC hr hk (by rfl) hv dX4_spotOf_53
  have j_33 : ∀ (v0 : Int32) (v1 : Int32) (v2 : Int32), J_X4_spotOf_33 x1 x2 x3 post v0 v1 v2 → ∀ (ls : Array Slot), lv_has ls 4 [(0, .int v0), (1, .int v1), (2, .int v2)] → W p l e rm_X4_spotOf s m args below meth c s.heap [] 0 0 (MQ below (vp_Si post) args s 0 0 (fun _ => False)) (F0 m 33 ls []) := by
    intro  v0 v1 v2  hv
    intro ls hl
    unfold J_X4_spotOf_33 at hv
    refine lv_iconst (v := 0) hx hb dX4_spotOf_33 (by decide) ?_
    exact j_34  _ _ _ _  hv _ (lv_sub hl [0, 1, 2] rfl)
  refine lv_iload_n hx hb dX4_spotOf_0 rfl (lv_at hl 0 rfl) ?_
  refine lv_if_lt (tgt := 33) hx hb dX4_spotOf_1 (by decide) (fun c => ?_) (fun c => ?_)
  · have hv := hv.1 c
    exact j_33  _ _ _  hv _ (lv_sub hl [0, 1, 2] rfl)
  · have hv := hv.2 c
    refine lv_iload_n hx hb dX4_spotOf_4 rfl (lv_at hl 0 rfl) ?_
    refine lv_bipush (v := 99) hx hb dX4_spotOf_5 (by decide) ?_
    refine lv_icmp_gt (tgt := 33) hx hb dX4_spotOf_7 (by decide) (fun c => ?_) (fun c => ?_)
    · have hv := hv.1 c
      exact j_33  _ _ _  hv _ (lv_sub hl [0, 1, 2] rfl)
    · have hv := hv.2 c
      refine lv_iload_n hx hb dX4_spotOf_10 rfl (lv_at hl 1 rfl) ?_
      refine lv_if_lt (tgt := 33) hx hb dX4_spotOf_11 (by decide) (fun c => ?_) (fun c => ?_)
      · have hv := hv.1 c
        exact j_33  _ _ _  hv _ (lv_sub hl [0, 1, 2] rfl)
      · have hv := hv.2 c
        refine lv_iload_n hx hb dX4_spotOf_14 rfl (lv_at hl 1 rfl) ?_
        refine lv_bipush (v := 24) hx hb dX4_spotOf_15 (by decide) ?_
        refine lv_icmp_ge (tgt := 33) hx hb dX4_spotOf_17 (by decide) (fun c => ?_) (fun c => ?_)
        · have hv := hv.1 c
          exact j_33  _ _ _  hv _ (lv_sub hl [0, 1, 2] rfl)
        · have hv := hv.2 c
          refine lv_iload_n hx hb dX4_spotOf_20 rfl (lv_at hl 2 rfl) ?_
          refine lv_if_lt (tgt := 33) hx hb dX4_spotOf_21 (by decide) (fun c => ?_) (fun c => ?_)
          · have hv := hv.1 c
            exact j_33  _ _ _  hv _ (lv_sub hl [0, 1, 2] rfl)
          · have hv := hv.2 c
            refine lv_iload_n hx hb dX4_spotOf_24 rfl (lv_at hl 2 rfl) ?_
            refine lv_iconst (v := 2) hx hb dX4_spotOf_25 (by decide) ?_
            refine lv_icmp_ge (tgt := 33) hx hb dX4_spotOf_26 (by decide) (fun c => ?_) (fun c => ?_)
            · have hv := hv.1 c
              exact j_33  _ _ _  hv _ (lv_sub hl [0, 1, 2] rfl)
            · have hv := hv.2 c
              refine lv_iconst (v := 1) hx hb dX4_spotOf_29 (by decide) ?_
              refine lv_goto (tgt := 34) hx hb dX4_spotOf_30 (by decide) ?_
              exact j_34  _ _ _ _  hv _ (lv_sub hl [0, 1, 2] rfl)
def V_X5_place (w : Nat) (x1 : Int32) (g : St) (post : Int32 → St → Prop) : Prop := ((x1 < 0 → post (-1) g) ∧ (¬ x1 < 0 → (((g.2 (3 + w)) ≤ x1 → post (-1) g) ∧ (¬ (g.2 (3 + w)) ≤ x1 → vp_in x1 24 ∧ (post (g.1 (8 + 10 * w) (Int32.toNatClampNeg x1)) g)))))
abbrev rm_X5_place : Room := { frames := 0, cells := 0, slots := 0, locals := 0 }
set_option maxHeartbeats 4000000 in
set_option maxRecDepth 100000 in
theorem c_X5_place (l : Launch) (D : va_G) (cs az a : Nat → Nat) {w : Nat} (hw : w < 2) (x1 : Int32) (g : St) (post : Int32 → St → Prop) (hv : V_X5_place w x1 g post) : uMi l yX5_place wsX5_place rm_X5_place D cs az (gW cs a) [.ref (a (4 + 10 * w)), .int x1] g post := by
  refine u_ofI (cc := cX5_place) (maxL := 2) (by decide) rfl (Nat.le_of_ble_eq_true rfl) ?_
  intro p e s m args below meth c F ls hC hr hk hl hE
  have hx := hC.1.1; have hb := hC.1.2.1; have hml := hC.1.2.2.1; have hts := hC.1.2.2.2.2
  have hown : s.vm.findClass RX5 = some m.cls := hC.1.2.2.2.1
  have hl : lv_has ls 2 [(0, .ref (a (4 + 10 * w))), (1, .int x1)] := hl
  unfold V_X5_place at hv
  refine lv_iload_n hx hb dX5_place_0 rfl (lv_at hl 1 rfl) ?_
  refine lv_if_lt (tgt := 21) hx hb dX5_place_1 (by decide) (fun c => ?_) (fun c => ?_)
  · have hv := hv.1 c
    refine lv_iconst (v := (-1)) hx hb dX5_place_21 (by decide) ?_
    exact G_iret hC hr hk hE hv dX5_place_22
  · have hv := hv.2 c
    refine lv_iload_n hx hb dX5_place_4 rfl (lv_at hl 1 rfl) ?_
    refine lv_aload_n hx hb dX5_place_5 rfl (lv_at hl 0 rfl) ?_
    refine G_get (v := .int (g.2 (3 + w))) hC hE (fun _ h => List.mem_cons_of_mem _ (List.mem_append_left _ (List.mem_append_right _ h))) (f_units hw) rfl 4 (by decide) (hts (.fieldLink RX5 24 "SeedBattle$Units" "count" "I") (List.mem_of_getElem? (i := 1) rfl)) rfl dX5_place_6 ?_
    refine lv_icmp_ge (tgt := 21) hx hb dX5_place_9 (by decide) (fun c => ?_) (fun c => ?_)
    · have hv := hv.1 c
      refine lv_iconst (v := (-1)) hx hb dX5_place_21 (by decide) ?_
      exact G_iret hC hr hk hE hv dX5_place_22
    · have hv := hv.2 c
      refine lv_aload_n hx hb dX5_place_12 rfl (lv_at hl 0 rfl) ?_
      refine G_get (v := .ref (a (8 + 10 * w))) hC hE (fun _ h => List.mem_cons_of_mem _ (List.mem_append_left _ (List.mem_append_right _ h))) (f_units hw) rfl 3 (by decide) (hts (.fieldLink RX5 21 "SeedBattle$Units" "places" "[I") (List.mem_of_getElem? (i := 2) rfl)) rfl dX5_place_13 ?_
      refine lv_iload_n hx hb dX5_place_16 rfl (lv_at hl 1 rfl) ?_
      refine G_iald hC hE (f_places hw) hv.1 dX5_place_17 ?_
      have hv := hv.2
      refine lv_goto (tgt := 22) hx hb dX5_place_18 (by decide) ?_
      exact G_iret hC hr hk hE hv dX5_place_22
def V_X5_owner (w : Nat) (x1 : Int32) (g : St) (post : Int32 → St → Prop) : Prop := ((x1 < 0 → post (-1) g) ∧ (¬ x1 < 0 → (((g.2 (3 + w)) ≤ x1 → post (-1) g) ∧ (¬ (g.2 (3 + w)) ≤ x1 → vp_in x1 24 ∧ (post (g.1 (5 + 10 * w) (Int32.toNatClampNeg x1)) g)))))
abbrev rm_X5_owner : Room := { frames := 0, cells := 0, slots := 0, locals := 0 }
set_option maxHeartbeats 4000000 in
set_option maxRecDepth 100000 in
theorem c_X5_owner (l : Launch) (D : va_G) (cs az a : Nat → Nat) {w : Nat} (hw : w < 2) (x1 : Int32) (g : St) (post : Int32 → St → Prop) (hv : V_X5_owner w x1 g post) : uMi l yX5_owner wsX5_owner rm_X5_owner D cs az (gW cs a) [.ref (a (4 + 10 * w)), .int x1] g post := by
  refine u_ofI (cc := cX5_owner) (maxL := 2) (by decide) rfl (Nat.le_of_ble_eq_true rfl) ?_
  intro p e s m args below meth c F ls hC hr hk hl hE
  have hx := hC.1.1; have hb := hC.1.2.1; have hml := hC.1.2.2.1; have hts := hC.1.2.2.2.2
  have hown : s.vm.findClass RX5 = some m.cls := hC.1.2.2.2.1
  have hl : lv_has ls 2 [(0, .ref (a (4 + 10 * w))), (1, .int x1)] := hl
  unfold V_X5_owner at hv
  refine lv_iload_n hx hb dX5_owner_0 rfl (lv_at hl 1 rfl) ?_
  refine lv_if_lt (tgt := 21) hx hb dX5_owner_1 (by decide) (fun c => ?_) (fun c => ?_)
  · have hv := hv.1 c
    refine lv_iconst (v := (-1)) hx hb dX5_owner_21 (by decide) ?_
    exact G_iret hC hr hk hE hv dX5_owner_22
  · have hv := hv.2 c
    refine lv_iload_n hx hb dX5_owner_4 rfl (lv_at hl 1 rfl) ?_
    refine lv_aload_n hx hb dX5_owner_5 rfl (lv_at hl 0 rfl) ?_
    refine G_get (v := .int (g.2 (3 + w))) hC hE (fun _ h => List.mem_cons_of_mem _ (List.mem_append_left _ (List.mem_append_right _ h))) (f_units hw) rfl 4 (by decide) (hts (.fieldLink RX5 24 "SeedBattle$Units" "count" "I") (List.mem_of_getElem? (i := 1) rfl)) rfl dX5_owner_6 ?_
    refine lv_icmp_ge (tgt := 21) hx hb dX5_owner_9 (by decide) (fun c => ?_) (fun c => ?_)
    · have hv := hv.1 c
      refine lv_iconst (v := (-1)) hx hb dX5_owner_21 (by decide) ?_
      exact G_iret hC hr hk hE hv dX5_owner_22
    · have hv := hv.2 c
      refine lv_aload_n hx hb dX5_owner_12 rfl (lv_at hl 0 rfl) ?_
      refine G_get (v := .ref (a (5 + 10 * w))) hC hE (fun _ h => List.mem_cons_of_mem _ (List.mem_append_left _ (List.mem_append_right _ h))) (f_units hw) rfl 0 (by decide) (hts (.fieldLink RX5 9 "SeedBattle$Units" "owners" "[I") (List.mem_of_getElem? (i := 2) rfl)) rfl dX5_owner_13 ?_
      refine lv_iload_n hx hb dX5_owner_16 rfl (lv_at hl 1 rfl) ?_
      refine G_iald hC hE (f_owners hw) hv.1 dX5_owner_17 ?_
      have hv := hv.2
      refine lv_goto (tgt := 22) hx hb dX5_owner_18 (by decide) ?_
      exact G_iret hC hr hk hE hv dX5_owner_22
def V_X5_sight (w : Nat) (x1 : Int32) (g : St) (post : Int32 → St → Prop) : Prop := ((x1 < 0 → post 0 g) ∧ (¬ x1 < 0 → (((g.2 (3 + w)) ≤ x1 → post 0 g) ∧ (¬ (g.2 (3 + w)) ≤ x1 → vp_in x1 24 ∧ (vp_in (g.1 (6 + 10 * w) (Int32.toNatClampNeg x1)) 3 ∧ (post (kSights (g.1 (6 + 10 * w) (Int32.toNatClampNeg x1)).toNatClampNeg) g))))))
abbrev rm_X5_sight : Room := { frames := 0, cells := 0, slots := 0, locals := 0 }
set_option maxHeartbeats 4000000 in
set_option maxRecDepth 100000 in
theorem c_X5_sight (l : Launch) (D : va_G) (cs az a : Nat → Nat) {w : Nat} (hw : w < 2) (x1 : Int32) (g : St) (post : Int32 → St → Prop) (hv : V_X5_sight w x1 g post) : uMi l yX5_sight wsX5_sight rm_X5_sight D cs az (gW cs a) [.ref (a (4 + 10 * w)), .int x1] g post := by
  refine u_ofI (cc := cX5_sight) (maxL := 2) (by decide) rfl (Nat.le_of_ble_eq_true rfl) ?_
  intro p e s m args below meth c F ls hC hr hk hl hE
  have hx := hC.1.1; have hb := hC.1.2.1; have hml := hC.1.2.2.1; have hts := hC.1.2.2.2.2
  have hown : s.vm.findClass RX5 = some m.cls := hC.1.2.2.2.1
  have hl : lv_has ls 2 [(0, .ref (a (4 + 10 * w))), (1, .int x1)] := hl
  unfold V_X5_sight at hv
  refine lv_iload_n hx hb dX5_sight_0 rfl (lv_at hl 1 rfl) ?_
  refine lv_if_lt (tgt := 25) hx hb dX5_sight_1 (by decide) (fun c => ?_) (fun c => ?_)
  · have hv := hv.1 c
    refine lv_iconst (v := 0) hx hb dX5_sight_25 (by decide) ?_
    exact G_iret hC hr hk hE hv dX5_sight_26
  · have hv := hv.2 c
    refine lv_iload_n hx hb dX5_sight_4 rfl (lv_at hl 1 rfl) ?_
    refine lv_aload_n hx hb dX5_sight_5 rfl (lv_at hl 0 rfl) ?_
    refine G_get (v := .int (g.2 (3 + w))) hC hE (fun _ h => List.mem_cons_of_mem _ (List.mem_append_left _ (List.mem_append_right _ h))) (f_units hw) rfl 4 (by decide) (hts (.fieldLink RX5 24 "SeedBattle$Units" "count" "I") (List.mem_of_getElem? (i := 1) rfl)) rfl dX5_sight_6 ?_
    refine lv_icmp_ge (tgt := 25) hx hb dX5_sight_9 (by decide) (fun c => ?_) (fun c => ?_)
    · have hv := hv.1 c
      refine lv_iconst (v := 0) hx hb dX5_sight_25 (by decide) ?_
      exact G_iret hC hr hk hE hv dX5_sight_26
    · have hv := hv.2 c
      refine G_getsN hC hE hC.2.2.2.k0 (List.mem_of_getElem? (i := 10) rfl) dX5_sight_12 ?_
      refine lv_aload_n hx hb dX5_sight_15 rfl (lv_at hl 0 rfl) ?_
      refine G_get (v := .ref (a (6 + 10 * w))) hC hE (fun _ h => List.mem_cons_of_mem _ (List.mem_append_left _ (List.mem_append_right _ h))) (f_units hw) rfl 1 (by decide) (hts (.fieldLink RX5 15 "SeedBattle$Units" "kinds" "[I") (List.mem_of_getElem? (i := 2) rfl)) rfl dX5_sight_16 ?_
      refine lv_iload_n hx hb dX5_sight_19 rfl (lv_at hl 1 rfl) ?_
      refine G_iald hC hE (f_kinds hw) hv.1 dX5_sight_20 ?_
      have hv := hv.2
      refine G_tld hC hE hC.2.2.2.k0 hv.1 dX5_sight_21 ?_
      have hv := hv.2
      refine lv_goto (tgt := 26) hx hb dX5_sight_22 (by decide) ?_
      exact G_iret hC hr hk hE hv dX5_sight_26
def V_X5_steps (w : Nat) (x1 : Int32) (g : St) (post : Int32 → St → Prop) : Prop := ((x1 < 0 → post 0 g) ∧ (¬ x1 < 0 → (((g.2 (3 + w)) ≤ x1 → post 0 g) ∧ (¬ (g.2 (3 + w)) ≤ x1 → vp_in x1 24 ∧ (vp_in (g.1 (6 + 10 * w) (Int32.toNatClampNeg x1)) 3 ∧ (post (kSteps (g.1 (6 + 10 * w) (Int32.toNatClampNeg x1)).toNatClampNeg) g))))))
abbrev rm_X5_steps : Room := { frames := 0, cells := 0, slots := 0, locals := 0 }
set_option maxHeartbeats 4000000 in
set_option maxRecDepth 100000 in
theorem c_X5_steps (l : Launch) (D : va_G) (cs az a : Nat → Nat) {w : Nat} (hw : w < 2) (x1 : Int32) (g : St) (post : Int32 → St → Prop) (hv : V_X5_steps w x1 g post) : uMi l yX5_steps wsX5_steps rm_X5_steps D cs az (gW cs a) [.ref (a (4 + 10 * w)), .int x1] g post := by
  refine u_ofI (cc := cX5_steps) (maxL := 2) (by decide) rfl (Nat.le_of_ble_eq_true rfl) ?_
  intro p e s m args below meth c F ls hC hr hk hl hE
  have hx := hC.1.1; have hb := hC.1.2.1; have hml := hC.1.2.2.1; have hts := hC.1.2.2.2.2
  have hown : s.vm.findClass RX5 = some m.cls := hC.1.2.2.2.1
  have hl : lv_has ls 2 [(0, .ref (a (4 + 10 * w))), (1, .int x1)] := hl
  unfold V_X5_steps at hv
  refine lv_iload_n hx hb dX5_steps_0 rfl (lv_at hl 1 rfl) ?_
  refine lv_if_lt (tgt := 25) hx hb dX5_steps_1 (by decide) (fun c => ?_) (fun c => ?_)
  · have hv := hv.1 c
    refine lv_iconst (v := 0) hx hb dX5_steps_25 (by decide) ?_
    exact G_iret hC hr hk hE hv dX5_steps_26
  · have hv := hv.2 c
    refine lv_iload_n hx hb dX5_steps_4 rfl (lv_at hl 1 rfl) ?_
    refine lv_aload_n hx hb dX5_steps_5 rfl (lv_at hl 0 rfl) ?_
    refine G_get (v := .int (g.2 (3 + w))) hC hE (fun _ h => List.mem_cons_of_mem _ (List.mem_append_left _ (List.mem_append_right _ h))) (f_units hw) rfl 4 (by decide) (hts (.fieldLink RX5 24 "SeedBattle$Units" "count" "I") (List.mem_of_getElem? (i := 1) rfl)) rfl dX5_steps_6 ?_
    refine lv_icmp_ge (tgt := 25) hx hb dX5_steps_9 (by decide) (fun c => ?_) (fun c => ?_)
    · have hv := hv.1 c
      refine lv_iconst (v := 0) hx hb dX5_steps_25 (by decide) ?_
      exact G_iret hC hr hk hE hv dX5_steps_26
    · have hv := hv.2 c
      refine G_getsN hC hE hC.2.2.2.k1 (List.mem_of_getElem? (i := 11) rfl) dX5_steps_12 ?_
      refine lv_aload_n hx hb dX5_steps_15 rfl (lv_at hl 0 rfl) ?_
      refine G_get (v := .ref (a (6 + 10 * w))) hC hE (fun _ h => List.mem_cons_of_mem _ (List.mem_append_left _ (List.mem_append_right _ h))) (f_units hw) rfl 1 (by decide) (hts (.fieldLink RX5 15 "SeedBattle$Units" "kinds" "[I") (List.mem_of_getElem? (i := 2) rfl)) rfl dX5_steps_16 ?_
      refine lv_iload_n hx hb dX5_steps_19 rfl (lv_at hl 1 rfl) ?_
      refine G_iald hC hE (f_kinds hw) hv.1 dX5_steps_20 ?_
      have hv := hv.2
      refine G_tld hC hE hC.2.2.2.k1 hv.1 dX5_steps_21 ?_
      have hv := hv.2
      refine lv_goto (tgt := 26) hx hb dX5_steps_22 (by decide) ?_
      exact G_iret hC hr hk hE hv dX5_steps_26
def V_X5_power (w : Nat) (x1 : Int32) (g : St) (post : Int32 → St → Prop) : Prop := ((x1 < 0 → post 0 g) ∧ (¬ x1 < 0 → (((g.2 (3 + w)) ≤ x1 → post 0 g) ∧ (¬ (g.2 (3 + w)) ≤ x1 → vp_in x1 24 ∧ (vp_in (g.1 (6 + 10 * w) (Int32.toNatClampNeg x1)) 3 ∧ (post (kPowers (g.1 (6 + 10 * w) (Int32.toNatClampNeg x1)).toNatClampNeg) g))))))
abbrev rm_X5_power : Room := { frames := 0, cells := 0, slots := 0, locals := 0 }
set_option maxHeartbeats 4000000 in
set_option maxRecDepth 100000 in
theorem c_X5_power (l : Launch) (D : va_G) (cs az a : Nat → Nat) {w : Nat} (hw : w < 2) (x1 : Int32) (g : St) (post : Int32 → St → Prop) (hv : V_X5_power w x1 g post) : uMi l yX5_power wsX5_power rm_X5_power D cs az (gW cs a) [.ref (a (4 + 10 * w)), .int x1] g post := by
  refine u_ofI (cc := cX5_power) (maxL := 2) (by decide) rfl (Nat.le_of_ble_eq_true rfl) ?_
  intro p e s m args below meth c F ls hC hr hk hl hE
  have hx := hC.1.1; have hb := hC.1.2.1; have hml := hC.1.2.2.1; have hts := hC.1.2.2.2.2
  have hown : s.vm.findClass RX5 = some m.cls := hC.1.2.2.2.1
  have hl : lv_has ls 2 [(0, .ref (a (4 + 10 * w))), (1, .int x1)] := hl
  unfold V_X5_power at hv
  refine lv_iload_n hx hb dX5_power_0 rfl (lv_at hl 1 rfl) ?_
  refine lv_if_lt (tgt := 25) hx hb dX5_power_1 (by decide) (fun c => ?_) (fun c => ?_)
  · have hv := hv.1 c
    refine lv_iconst (v := 0) hx hb dX5_power_25 (by decide) ?_
    exact G_iret hC hr hk hE hv dX5_power_26
  · have hv := hv.2 c
    refine lv_iload_n hx hb dX5_power_4 rfl (lv_at hl 1 rfl) ?_
    refine lv_aload_n hx hb dX5_power_5 rfl (lv_at hl 0 rfl) ?_
    refine G_get (v := .int (g.2 (3 + w))) hC hE (fun _ h => List.mem_cons_of_mem _ (List.mem_append_left _ (List.mem_append_right _ h))) (f_units hw) rfl 4 (by decide) (hts (.fieldLink RX5 24 "SeedBattle$Units" "count" "I") (List.mem_of_getElem? (i := 1) rfl)) rfl dX5_power_6 ?_
    refine lv_icmp_ge (tgt := 25) hx hb dX5_power_9 (by decide) (fun c => ?_) (fun c => ?_)
    · have hv := hv.1 c
      refine lv_iconst (v := 0) hx hb dX5_power_25 (by decide) ?_
      exact G_iret hC hr hk hE hv dX5_power_26
    · have hv := hv.2 c
      refine G_getsN hC hE hC.2.2.2.k2 (List.mem_of_getElem? (i := 12) rfl) dX5_power_12 ?_
      refine lv_aload_n hx hb dX5_power_15 rfl (lv_at hl 0 rfl) ?_
      refine G_get (v := .ref (a (6 + 10 * w))) hC hE (fun _ h => List.mem_cons_of_mem _ (List.mem_append_left _ (List.mem_append_right _ h))) (f_units hw) rfl 1 (by decide) (hts (.fieldLink RX5 15 "SeedBattle$Units" "kinds" "[I") (List.mem_of_getElem? (i := 2) rfl)) rfl dX5_power_16 ?_
      refine lv_iload_n hx hb dX5_power_19 rfl (lv_at hl 1 rfl) ?_
      refine G_iald hC hE (f_kinds hw) hv.1 dX5_power_20 ?_
      have hv := hv.2
      refine G_tld hC hE hC.2.2.2.k2 hv.1 dX5_power_21 ?_
      have hv := hv.2
      refine lv_goto (tgt := 26) hx hb dX5_power_22 (by decide) ?_
      exact G_iret hC hr hk hE hv dX5_power_26
def V_X5_has (w : Nat) (x1 : Int32) (g : St) (post : Int32 → St → Prop) : Prop := ((x1 < 0 → post 0 g) ∧ (¬ x1 < 0 → (((g.2 (3 + w)) ≤ x1 → post 0 g) ∧ (¬ (g.2 (3 + w)) ≤ x1 → post 1 g))))
abbrev rm_X5_has : Room := { frames := 0, cells := 0, slots := 0, locals := 0 }
set_option maxHeartbeats 4000000 in
set_option maxRecDepth 100000 in
theorem c_X5_has (l : Launch) (D : va_G) (cs az a : Nat → Nat) {w : Nat} (hw : w < 2) (x1 : Int32) (g : St) (post : Int32 → St → Prop) (hv : V_X5_has w x1 g post) : uMi l yX5_has wsX5_has rm_X5_has D cs az (gW cs a) [.ref (a (4 + 10 * w)), .int x1] g post := by
  refine u_ofI (cc := cX5_has) (maxL := 2) (by decide) rfl (Nat.le_of_ble_eq_true rfl) ?_
  intro p e s m args below meth c F ls hC hr hk hl hE
  have hx := hC.1.1; have hb := hC.1.2.1; have hml := hC.1.2.2.1; have hts := hC.1.2.2.2.2
  have hown : s.vm.findClass RX5 = some m.cls := hC.1.2.2.2.1
  have hl : lv_has ls 2 [(0, .ref (a (4 + 10 * w))), (1, .int x1)] := hl
  unfold V_X5_has at hv
  refine lv_iload_n hx hb dX5_has_0 rfl (lv_at hl 1 rfl) ?_
  refine lv_if_lt (tgt := 16) hx hb dX5_has_1 (by decide) (fun c => ?_) (fun c => ?_)
  · have hv := hv.1 c
    refine lv_iconst (v := 0) hx hb dX5_has_16 (by decide) ?_
    exact G_zret hC hr hk hE rfl hv dX5_has_17
  · have hv := hv.2 c
    refine lv_iload_n hx hb dX5_has_4 rfl (lv_at hl 1 rfl) ?_
    refine lv_aload_n hx hb dX5_has_5 rfl (lv_at hl 0 rfl) ?_
    refine G_get (v := .int (g.2 (3 + w))) hC hE (fun _ h => List.mem_cons_of_mem _ (List.mem_append_right _ h)) (f_units hw) rfl 4 (by decide) (hts (.fieldLink RX5 24 "SeedBattle$Units" "count" "I") (List.mem_of_getElem? (i := 1) rfl)) rfl dX5_has_6 ?_
    refine lv_icmp_ge (tgt := 16) hx hb dX5_has_9 (by decide) (fun c => ?_) (fun c => ?_)
    · have hv := hv.1 c
      refine lv_iconst (v := 0) hx hb dX5_has_16 (by decide) ?_
      exact G_zret hC hr hk hE rfl hv dX5_has_17
    · have hv := hv.2 c
      refine lv_iconst (v := 1) hx hb dX5_has_12 (by decide) ?_
      refine lv_goto (tgt := 17) hx hb dX5_has_13 (by decide) ?_
      exact G_zret hC hr hk hE rfl hv dX5_has_17
def V_X5_lives (w : Nat) (x1 : Int32) (g : St) (post : Int32 → St → Prop) : Prop := V_X5_place w x1 g (fun r2 g1 => ((r2 = (-1) → post 0 g1) ∧ (¬ r2 = (-1) → post 1 g1)))
abbrev rm_X5_lives : Room := { frames := 1, cells := 0, slots := 0, locals := 21 }
set_option maxHeartbeats 4000000 in
set_option maxRecDepth 100000 in
theorem c_X5_lives (l : Launch) (D : va_G) (cs az a : Nat → Nat) {w : Nat} (hw : w < 2) (x1 : Int32) (g : St) (post : Int32 → St → Prop) (hv : V_X5_lives w x1 g post) : uMi l yX5_lives wsX5_lives rm_X5_lives D cs az (gW cs a) [.ref (a (4 + 10 * w)), .int x1] g post := by
  refine u_ofI (cc := cX5_lives) (maxL := 2) (by decide) rfl (Nat.le_of_ble_eq_true rfl) ?_
  intro p e s m args below meth c F ls hC hr hk hl hE
  have hx := hC.1.1; have hb := hC.1.2.1; have hml := hC.1.2.2.1; have hts := hC.1.2.2.2.2
  have hown : s.vm.findClass RX5 = some m.cls := hC.1.2.2.2.1
  have hl : lv_has ls 2 [(0, .ref (a (4 + 10 * w))), (1, .int x1)] := hl
  unfold V_X5_lives at hv
  refine lv_aload_n hx hb dX5_lives_0 rfl (lv_at hl 0 rfl) ?_
  refine lv_iload_n hx hb dX5_lives_1 rfl (lv_at hl 1 rfl) ?_
  refine G_callVi hC (c_X5_place l D cs az a (w := w) hw x1 g _ hv) (cwV 1 hts gX5_lives_X5_place rfl rfl rfl (by decide +kernel) ⟨Nat.le_of_ble_eq_true rfl, Nat.le_of_ble_eq_true rfl⟩) (f_units hw) rfl rfl hl rfl (Nat.le_of_ble_eq_true rfl) dX5_lives_2 hE (fun r2 g1 H locs hv hE => ?_)
  refine lv_iconst (v := (-1)) hx hb dX5_lives_5 (by decide) ?_
  refine lv_icmp_eq (tgt := 13) hx hb dX5_lives_6 (by decide) (fun c => ?_) (fun c => ?_)
  · have hv := hv.1 c
    refine lv_iconst (v := 0) hx hb dX5_lives_13 (by decide) ?_
    exact G_zret hC hr hk hE rfl hv dX5_lives_14
  · have hv := hv.2 c
    refine lv_iconst (v := 1) hx hb dX5_lives_9 (by decide) ?_
    refine lv_goto (tgt := 14) hx hb dX5_lives_10 (by decide) ?_
    exact G_zret hC hr hk hE rfl hv dX5_lives_14
def J_X5_on_27 (w : Nat) (x1 : Int32) (post : Int32 → St → Prop) (K2 : (Int32 × Int32 × St) → Prop) (v1 : Int32) (v2 : Int32) (g : St) : Prop := K2 (v1, (v2 + 1), g)
def J_X5_on_2 (w : Nat) (x1 : Int32) (post : Int32 → St → Prop) (K2 : (Int32 × Int32 × St) → Prop) (v1 : Int32) (v2 : Int32) (g : St) : Prop := (((g.2 (3 + w)) ≤ v2 → post (-1) g) ∧ (¬ (g.2 (3 + w)) ≤ v2 → vp_in v2 24 ∧ (((¬ (g.1 (8 + 10 * w) (Int32.toNatClampNeg v2)) = v1 → J_X5_on_27 w x1 post K2 v1 v2 g) ∧ ((g.1 (8 + 10 * w) (Int32.toNatClampNeg v2)) = v1 → ((v1 = (-1) → J_X5_on_27 w x1 post K2 v1 v2 g) ∧ (¬ v1 = (-1) → post v2 g)))))))
def V_X5_on (w : Nat) (x1 : Int32) (g : St) (post : Int32 → St → Prop) : Prop := lpP (fun K2 (z : Int32 × Int32 × St) => J_X5_on_2 w x1 post K2 z.1 z.2.1 z.2.2) (x1, 0, g)
abbrev rm_X5_on : Room := { frames := 0, cells := 0, slots := 0, locals := 0 }
set_option maxHeartbeats 4000000 in
set_option maxRecDepth 100000 in
theorem c_X5_on (l : Launch) (D : va_G) (cs az a : Nat → Nat) {w : Nat} (hw : w < 2) (x1 : Int32) (g : St) (post : Int32 → St → Prop) (hv : V_X5_on w x1 g post) : uMi l yX5_on wsX5_on rm_X5_on D cs az (gW cs a) [.ref (a (4 + 10 * w)), .int x1] g post := by
  refine u_ofI (cc := cX5_on) (maxL := 3) (by decide) rfl (Nat.le_of_ble_eq_true rfl) ?_
  intro p e s m args below meth c F ls hC hr hk hl hE
  have hx := hC.1.1; have hb := hC.1.2.1; have hml := hC.1.2.2.1; have hts := hC.1.2.2.2.2
  have hown : s.vm.findClass RX5 = some m.cls := hC.1.2.2.2.1
  have hl : lv_has ls 3 [(0, .ref (a (4 + 10 * w))), (1, .int x1)] := hl
  unfold V_X5_on at hv
  have j_27 : ∀ (K2 : (Int32 × Int32 × St) → Prop), (∀ (v1 : Int32) (v2 : Int32) (g : St), K2 (v1, v2, g) → ∀ (H : Heap) (locs : List Loc) (ls : Array Slot), uE D 52 gA (gO cs a) cs a F s g H locs → lv_has ls 3 [(0, .ref (a (4 + 10 * w))), (1, .int v1), (2, .int v2)] → W p l e rm_X5_on s m args below meth c H locs 0 0 (MQ below (va_Qi post (uB D (uW 52 gA (gO cs a) cs a)) F) args s 0 0 F) (F0 m 2 ls [])) → ∀ (v1 : Int32) (v2 : Int32) (g : St), J_X5_on_27 w x1 post K2 v1 v2 g → ∀ (H : Heap) (locs : List Loc) (ls : Array Slot), uE D 52 gA (gO cs a) cs a F s g H locs → lv_has ls 3 [(0, .ref (a (4 + 10 * w))), (1, .int v1), (2, .int v2)] → W p l e rm_X5_on s m args below meth c H locs 0 0 (MQ below (va_Qi post (uB D (uW 52 gA (gO cs a) cs a)) F) args s 0 0 F) (F0 m 27 ls []) := by
    intro K2 hK2 v1 v2 g  hv
    intro H locs ls hE hl
    unfold J_X5_on_27 at hv
    refine lv_iinc (v := (v2 + 1)) (lv' := [(2, .int (v2 + 1)), (0, .ref (a (4 + 10 * w))), (1, .int v1)]) hx hb dX5_on_27 hl (k := 2) rfl rfl (by decide) rfl (fun ls hl => ?_)
    refine lv_goto (tgt := 2) hx hb dX5_on_30 (by decide) ?_
    exact hK2 _ _ _  hv _ _ _ hE (lv_sub hl [1, 2, 0] rfl)
  have j_2 : ∀ (v1 : Int32) (v2 : Int32) (g : St), lpP (fun K2 (z : Int32 × Int32 × St) => J_X5_on_2 w x1 post K2 z.1 z.2.1 z.2.2) (v1, v2, g) → ∀ (H : Heap) (locs : List Loc) (ls : Array Slot), uE D 52 gA (gO cs a) cs a F s g H locs → lv_has ls 3 [(0, .ref (a (4 + 10 * w))), (1, .int v1), (2, .int v2)] → W p l e rm_X5_on s m args below meth c H locs 0 0 (MQ below (va_Qi post (uB D (uW 52 gA (gO cs a) cs a)) F) args s 0 0 F) (F0 m 2 ls []) := by
    intro  v1 v2 g  hv
    obtain ⟨nn, hv⟩ := hv
    induction nn generalizing v1 v2 g with
    | zero => exact False.elim hv
    | succ nn hK2 =>
      intro H locs ls hE hl
      have hv : J_X5_on_2 w x1 post (itP _ nn) v1 v2 g := hv
      unfold J_X5_on_2 at hv
      refine lv_iload_n hx hb dX5_on_2 rfl (lv_at hl 2 rfl) ?_
      refine lv_aload_n hx hb dX5_on_3 rfl (lv_at hl 0 rfl) ?_
      refine G_get (v := .int (g.2 (3 + w))) hC hE (fun _ h => List.mem_cons_of_mem _ (List.mem_append_left _ (List.mem_append_right _ h))) (f_units hw) rfl 4 (by decide) (hts (.fieldLink RX5 24 "SeedBattle$Units" "count" "I") (List.mem_of_getElem? (i := 1) rfl)) rfl dX5_on_4 ?_
      refine lv_icmp_ge (tgt := 33) hx hb dX5_on_7 (by decide) (fun c => ?_) (fun c => ?_)
      · have hv := hv.1 c
        refine lv_iconst (v := (-1)) hx hb dX5_on_33 (by decide) ?_
        exact G_iret hC hr hk hE hv dX5_on_34
      · have hv := hv.2 c
        refine lv_aload_n hx hb dX5_on_10 rfl (lv_at hl 0 rfl) ?_
        refine G_get (v := .ref (a (8 + 10 * w))) hC hE (fun _ h => List.mem_cons_of_mem _ (List.mem_append_left _ (List.mem_append_right _ h))) (f_units hw) rfl 3 (by decide) (hts (.fieldLink RX5 21 "SeedBattle$Units" "places" "[I") (List.mem_of_getElem? (i := 2) rfl)) rfl dX5_on_11 ?_
        refine lv_iload_n hx hb dX5_on_14 rfl (lv_at hl 2 rfl) ?_
        refine G_iald hC hE (f_places hw) hv.1 dX5_on_15 ?_
        have hv := hv.2
        refine lv_iload_n hx hb dX5_on_16 rfl (lv_at hl 1 rfl) ?_
        refine lv_icmp_ne (tgt := 27) hx hb dX5_on_17 (by decide) (fun c => ?_) (fun c => ?_)
        · have hv := hv.1 c
          exact j_27 _ hK2 _ _ _  hv _ _ _ hE (lv_sub hl [0, 1, 2] rfl)
        · have hv := hv.2 c
          refine lv_iload_n hx hb dX5_on_20 rfl (lv_at hl 1 rfl) ?_
          refine lv_iconst (v := (-1)) hx hb dX5_on_21 (by decide) ?_
          refine lv_icmp_eq (tgt := 27) hx hb dX5_on_22 (by decide) (fun c => ?_) (fun c => ?_)
          · have hv := hv.1 c
            exact j_27 _ hK2 _ _ _  hv _ _ _ hE (lv_sub hl [0, 1, 2] rfl)
          · have hv := hv.2 c
            refine lv_iload_n hx hb dX5_on_25 rfl (lv_at hl 2 rfl) ?_
            exact G_iret hC hr hk hE hv dX5_on_26
  refine lv_iconst (v := 0) hx hb dX5_on_0 (by decide) ?_
  refine lv_istore_n (lv' := [(2, .int 0), (0, .ref (a (4 + 10 * w))), (1, .int x1)]) hx hb dX5_on_1 rfl hl (by decide) rfl (fun ls hl => ?_)
  exact j_2  _ _ _  hv _ _ _ hE (lv_sub hl [1, 2, 0] rfl)
def V_X5_move (w : Nat) (x1 : Int32) (x2 : Int32) (g : St) (post : St → Prop) : Prop := ((x1 < 0 → post g) ∧ (¬ x1 < 0 → (((g.2 (3 + w)) ≤ x1 → post g) ∧ (¬ (g.2 (3 + w)) ≤ x1 → vp_in x1 24 ∧ (post (sA g (8 + 10 * w) (upd (g.1 (8 + 10 * w)) (Int32.toNatClampNeg x1) x2)))))))
abbrev rm_X5_move : Room := { frames := 0, cells := 0, slots := 0, locals := 0 }
set_option maxHeartbeats 4000000 in
set_option maxRecDepth 100000 in
theorem c_X5_move (l : Launch) (D : va_G) (cs az a : Nat → Nat) {w : Nat} (hw : w < 2) (x1 : Int32) (x2 : Int32) (g : St) (post : St → Prop) (hv : V_X5_move w x1 x2 g post) : uMv l yX5_move wsX5_move rm_X5_move D cs az (gW cs a) [.ref (a (4 + 10 * w)), .int x1, .int x2] g post := by
  refine u_ofV (cc := cX5_move) (maxL := 3) (by decide) rfl (Nat.le_of_ble_eq_true rfl) ?_
  intro p e s m args below meth c F ls hC hr hk hl hE
  have hx := hC.1.1; have hb := hC.1.2.1; have hml := hC.1.2.2.1; have hts := hC.1.2.2.2.2
  have hown : s.vm.findClass RX5 = some m.cls := hC.1.2.2.2.1
  have hl : lv_has ls 3 [(0, .ref (a (4 + 10 * w))), (1, .int x1), (2, .int x2)] := hl
  unfold V_X5_move at hv
  refine lv_iload_n hx hb dX5_move_0 rfl (lv_at hl 1 rfl) ?_
  refine lv_if_lt (tgt := 19) hx hb dX5_move_1 (by decide) (fun c => ?_) (fun c => ?_)
  · have hv := hv.1 c
    exact G_vret hC hr hk hE hv dX5_move_19
  · have hv := hv.2 c
    refine lv_iload_n hx hb dX5_move_4 rfl (lv_at hl 1 rfl) ?_
    refine lv_aload_n hx hb dX5_move_5 rfl (lv_at hl 0 rfl) ?_
    refine G_get (v := .int (g.2 (3 + w))) hC hE (fun _ h => List.mem_cons_of_mem _ (List.mem_append_left _ (List.mem_append_right _ h))) (f_units hw) rfl 4 (by decide) (hts (.fieldLink RX5 24 "SeedBattle$Units" "count" "I") (List.mem_of_getElem? (i := 1) rfl)) rfl dX5_move_6 ?_
    refine lv_icmp_ge (tgt := 19) hx hb dX5_move_9 (by decide) (fun c => ?_) (fun c => ?_)
    · have hv := hv.1 c
      exact G_vret hC hr hk hE hv dX5_move_19
    · have hv := hv.2 c
      refine lv_aload_n hx hb dX5_move_12 rfl (lv_at hl 0 rfl) ?_
      refine G_get (v := .ref (a (8 + 10 * w))) hC hE (fun _ h => List.mem_cons_of_mem _ (List.mem_append_left _ (List.mem_append_right _ h))) (f_units hw) rfl 3 (by decide) (hts (.fieldLink RX5 21 "SeedBattle$Units" "places" "[I") (List.mem_of_getElem? (i := 2) rfl)) rfl dX5_move_13 ?_
      refine lv_iload_n hx hb dX5_move_16 rfl (lv_at hl 1 rfl) ?_
      refine lv_iload_n hx hb dX5_move_17 rfl (lv_at hl 2 rfl) ?_
      refine G_iast hC hE (f_places hw) hv.1 dX5_move_18 (fun H locs hE => ?_)
      have hv := hv.2
      exact G_vret hC hr hk hE hv dX5_move_19
def V_X5_put (w : Nat) (x1 : Int32) (x2 : Int32) (x3 : Int32) (g : St) (post : Int32 → St → Prop) : Prop := (((g.2 (3 + w)) < 24 → vp_in (g.2 (3 + w)) 24 ∧ (vp_in ((sA g (5 + 10 * w) (upd (g.1 (5 + 10 * w)) (Int32.toNatClampNeg (g.2 (3 + w))) x1)).2 (3 + w)) 24 ∧ (vp_in ((sA (sA g (5 + 10 * w) (upd (g.1 (5 + 10 * w)) (Int32.toNatClampNeg (g.2 (3 + w))) x1)) (6 + 10 * w) (upd ((sA g (5 + 10 * w) (upd (g.1 (5 + 10 * w)) (Int32.toNatClampNeg (g.2 (3 + w))) x1)).1 (6 + 10 * w)) (Int32.toNatClampNeg ((sA g (5 + 10 * w) (upd (g.1 (5 + 10 * w)) (Int32.toNatClampNeg (g.2 (3 + w))) x1)).2 (3 + w))) x2)).2 (3 + w)) 24 ∧ (vp_in ((sA (sA (sA g (5 + 10 * w) (upd (g.1 (5 + 10 * w)) (Int32.toNatClampNeg (g.2 (3 + w))) x1)) (6 + 10 * w) (upd ((sA g (5 + 10 * w) (upd (g.1 (5 + 10 * w)) (Int32.toNatClampNeg (g.2 (3 + w))) x1)).1 (6 + 10 * w)) (Int32.toNatClampNeg ((sA g (5 + 10 * w) (upd (g.1 (5 + 10 * w)) (Int32.toNatClampNeg (g.2 (3 + w))) x1)).2 (3 + w))) x2)) (7 + 10 * w) (upd ((sA (sA g (5 + 10 * w) (upd (g.1 (5 + 10 * w)) (Int32.toNatClampNeg (g.2 (3 + w))) x1)) (6 + 10 * w) (upd ((sA g (5 + 10 * w) (upd (g.1 (5 + 10 * w)) (Int32.toNatClampNeg (g.2 (3 + w))) x1)).1 (6 + 10 * w)) (Int32.toNatClampNeg ((sA g (5 + 10 * w) (upd (g.1 (5 + 10 * w)) (Int32.toNatClampNeg (g.2 (3 + w))) x1)).2 (3 + w))) x2)).1 (7 + 10 * w)) (Int32.toNatClampNeg ((sA (sA g (5 + 10 * w) (upd (g.1 (5 + 10 * w)) (Int32.toNatClampNeg (g.2 (3 + w))) x1)) (6 + 10 * w) (upd ((sA g (5 + 10 * w) (upd (g.1 (5 + 10 * w)) (Int32.toNatClampNeg (g.2 (3 + w))) x1)).1 (6 + 10 * w)) (Int32.toNatClampNeg ((sA g (5 + 10 * w) (upd (g.1 (5 + 10 * w)) (Int32.toNatClampNeg (g.2 (3 + w))) x1)).2 (3 + w))) x2)).2 (3 + w))) x3)).2 (3 + w)) 24 ∧ (post (((sS (sA (sA (sA (sA g (5 + 10 * w) (upd (g.1 (5 + 10 * w)) (Int32.toNatClampNeg (g.2 (3 + w))) x1)) (6 + 10 * w) (upd ((sA g (5 + 10 * w) (upd (g.1 (5 + 10 * w)) (Int32.toNatClampNeg (g.2 (3 + w))) x1)).1 (6 + 10 * w)) (Int32.toNatClampNeg ((sA g (5 + 10 * w) (upd (g.1 (5 + 10 * w)) (Int32.toNatClampNeg (g.2 (3 + w))) x1)).2 (3 + w))) x2)) (7 + 10 * w) (upd ((sA (sA g (5 + 10 * w) (upd (g.1 (5 + 10 * w)) (Int32.toNatClampNeg (g.2 (3 + w))) x1)) (6 + 10 * w) (upd ((sA g (5 + 10 * w) (upd (g.1 (5 + 10 * w)) (Int32.toNatClampNeg (g.2 (3 + w))) x1)).1 (6 + 10 * w)) (Int32.toNatClampNeg ((sA g (5 + 10 * w) (upd (g.1 (5 + 10 * w)) (Int32.toNatClampNeg (g.2 (3 + w))) x1)).2 (3 + w))) x2)).1 (7 + 10 * w)) (Int32.toNatClampNeg ((sA (sA g (5 + 10 * w) (upd (g.1 (5 + 10 * w)) (Int32.toNatClampNeg (g.2 (3 + w))) x1)) (6 + 10 * w) (upd ((sA g (5 + 10 * w) (upd (g.1 (5 + 10 * w)) (Int32.toNatClampNeg (g.2 (3 + w))) x1)).1 (6 + 10 * w)) (Int32.toNatClampNeg ((sA g (5 + 10 * w) (upd (g.1 (5 + 10 * w)) (Int32.toNatClampNeg (g.2 (3 + w))) x1)).2 (3 + w))) x2)).2 (3 + w))) x3)) (8 + 10 * w) (upd ((sA (sA (sA g (5 + 10 * w) (upd (g.1 (5 + 10 * w)) (Int32.toNatClampNeg (g.2 (3 + w))) x1)) (6 + 10 * w) (upd ((sA g (5 + 10 * w) (upd (g.1 (5 + 10 * w)) (Int32.toNatClampNeg (g.2 (3 + w))) x1)).1 (6 + 10 * w)) (Int32.toNatClampNeg ((sA g (5 + 10 * w) (upd (g.1 (5 + 10 * w)) (Int32.toNatClampNeg (g.2 (3 + w))) x1)).2 (3 + w))) x2)) (7 + 10 * w) (upd ((sA (sA g (5 + 10 * w) (upd (g.1 (5 + 10 * w)) (Int32.toNatClampNeg (g.2 (3 + w))) x1)) (6 + 10 * w) (upd ((sA g (5 + 10 * w) (upd (g.1 (5 + 10 * w)) (Int32.toNatClampNeg (g.2 (3 + w))) x1)).1 (6 + 10 * w)) (Int32.toNatClampNeg ((sA g (5 + 10 * w) (upd (g.1 (5 + 10 * w)) (Int32.toNatClampNeg (g.2 (3 + w))) x1)).2 (3 + w))) x2)).1 (7 + 10 * w)) (Int32.toNatClampNeg ((sA (sA g (5 + 10 * w) (upd (g.1 (5 + 10 * w)) (Int32.toNatClampNeg (g.2 (3 + w))) x1)) (6 + 10 * w) (upd ((sA g (5 + 10 * w) (upd (g.1 (5 + 10 * w)) (Int32.toNatClampNeg (g.2 (3 + w))) x1)).1 (6 + 10 * w)) (Int32.toNatClampNeg ((sA g (5 + 10 * w) (upd (g.1 (5 + 10 * w)) (Int32.toNatClampNeg (g.2 (3 + w))) x1)).2 (3 + w))) x2)).2 (3 + w))) x3)).1 (8 + 10 * w)) (Int32.toNatClampNeg ((sA (sA (sA g (5 + 10 * w) (upd (g.1 (5 + 10 * w)) (Int32.toNatClampNeg (g.2 (3 + w))) x1)) (6 + 10 * w) (upd ((sA g (5 + 10 * w) (upd (g.1 (5 + 10 * w)) (Int32.toNatClampNeg (g.2 (3 + w))) x1)).1 (6 + 10 * w)) (Int32.toNatClampNeg ((sA g (5 + 10 * w) (upd (g.1 (5 + 10 * w)) (Int32.toNatClampNeg (g.2 (3 + w))) x1)).2 (3 + w))) x2)) (7 + 10 * w) (upd ((sA (sA g (5 + 10 * w) (upd (g.1 (5 + 10 * w)) (Int32.toNatClampNeg (g.2 (3 + w))) x1)) (6 + 10 * w) (upd ((sA g (5 + 10 * w) (upd (g.1 (5 + 10 * w)) (Int32.toNatClampNeg (g.2 (3 + w))) x1)).1 (6 + 10 * w)) (Int32.toNatClampNeg ((sA g (5 + 10 * w) (upd (g.1 (5 + 10 * w)) (Int32.toNatClampNeg (g.2 (3 + w))) x1)).2 (3 + w))) x2)).1 (7 + 10 * w)) (Int32.toNatClampNeg ((sA (sA g (5 + 10 * w) (upd (g.1 (5 + 10 * w)) (Int32.toNatClampNeg (g.2 (3 + w))) x1)) (6 + 10 * w) (upd ((sA g (5 + 10 * w) (upd (g.1 (5 + 10 * w)) (Int32.toNatClampNeg (g.2 (3 + w))) x1)).1 (6 + 10 * w)) (Int32.toNatClampNeg ((sA g (5 + 10 * w) (upd (g.1 (5 + 10 * w)) (Int32.toNatClampNeg (g.2 (3 + w))) x1)).2 (3 + w))) x2)).2 (3 + w))) x3)).2 (3 + w))) x3)) (3 + w) (((sA (sA (sA (sA g (5 + 10 * w) (upd (g.1 (5 + 10 * w)) (Int32.toNatClampNeg (g.2 (3 + w))) x1)) (6 + 10 * w) (upd ((sA g (5 + 10 * w) (upd (g.1 (5 + 10 * w)) (Int32.toNatClampNeg (g.2 (3 + w))) x1)).1 (6 + 10 * w)) (Int32.toNatClampNeg ((sA g (5 + 10 * w) (upd (g.1 (5 + 10 * w)) (Int32.toNatClampNeg (g.2 (3 + w))) x1)).2 (3 + w))) x2)) (7 + 10 * w) (upd ((sA (sA g (5 + 10 * w) (upd (g.1 (5 + 10 * w)) (Int32.toNatClampNeg (g.2 (3 + w))) x1)) (6 + 10 * w) (upd ((sA g (5 + 10 * w) (upd (g.1 (5 + 10 * w)) (Int32.toNatClampNeg (g.2 (3 + w))) x1)).1 (6 + 10 * w)) (Int32.toNatClampNeg ((sA g (5 + 10 * w) (upd (g.1 (5 + 10 * w)) (Int32.toNatClampNeg (g.2 (3 + w))) x1)).2 (3 + w))) x2)).1 (7 + 10 * w)) (Int32.toNatClampNeg ((sA (sA g (5 + 10 * w) (upd (g.1 (5 + 10 * w)) (Int32.toNatClampNeg (g.2 (3 + w))) x1)) (6 + 10 * w) (upd ((sA g (5 + 10 * w) (upd (g.1 (5 + 10 * w)) (Int32.toNatClampNeg (g.2 (3 + w))) x1)).1 (6 + 10 * w)) (Int32.toNatClampNeg ((sA g (5 + 10 * w) (upd (g.1 (5 + 10 * w)) (Int32.toNatClampNeg (g.2 (3 + w))) x1)).2 (3 + w))) x2)).2 (3 + w))) x3)) (8 + 10 * w) (upd ((sA (sA (sA g (5 + 10 * w) (upd (g.1 (5 + 10 * w)) (Int32.toNatClampNeg (g.2 (3 + w))) x1)) (6 + 10 * w) (upd ((sA g (5 + 10 * w) (upd (g.1 (5 + 10 * w)) (Int32.toNatClampNeg (g.2 (3 + w))) x1)).1 (6 + 10 * w)) (Int32.toNatClampNeg ((sA g (5 + 10 * w) (upd (g.1 (5 + 10 * w)) (Int32.toNatClampNeg (g.2 (3 + w))) x1)).2 (3 + w))) x2)) (7 + 10 * w) (upd ((sA (sA g (5 + 10 * w) (upd (g.1 (5 + 10 * w)) (Int32.toNatClampNeg (g.2 (3 + w))) x1)) (6 + 10 * w) (upd ((sA g (5 + 10 * w) (upd (g.1 (5 + 10 * w)) (Int32.toNatClampNeg (g.2 (3 + w))) x1)).1 (6 + 10 * w)) (Int32.toNatClampNeg ((sA g (5 + 10 * w) (upd (g.1 (5 + 10 * w)) (Int32.toNatClampNeg (g.2 (3 + w))) x1)).2 (3 + w))) x2)).1 (7 + 10 * w)) (Int32.toNatClampNeg ((sA (sA g (5 + 10 * w) (upd (g.1 (5 + 10 * w)) (Int32.toNatClampNeg (g.2 (3 + w))) x1)) (6 + 10 * w) (upd ((sA g (5 + 10 * w) (upd (g.1 (5 + 10 * w)) (Int32.toNatClampNeg (g.2 (3 + w))) x1)).1 (6 + 10 * w)) (Int32.toNatClampNeg ((sA g (5 + 10 * w) (upd (g.1 (5 + 10 * w)) (Int32.toNatClampNeg (g.2 (3 + w))) x1)).2 (3 + w))) x2)).2 (3 + w))) x3)).1 (8 + 10 * w)) (Int32.toNatClampNeg ((sA (sA (sA g (5 + 10 * w) (upd (g.1 (5 + 10 * w)) (Int32.toNatClampNeg (g.2 (3 + w))) x1)) (6 + 10 * w) (upd ((sA g (5 + 10 * w) (upd (g.1 (5 + 10 * w)) (Int32.toNatClampNeg (g.2 (3 + w))) x1)).1 (6 + 10 * w)) (Int32.toNatClampNeg ((sA g (5 + 10 * w) (upd (g.1 (5 + 10 * w)) (Int32.toNatClampNeg (g.2 (3 + w))) x1)).2 (3 + w))) x2)) (7 + 10 * w) (upd ((sA (sA g (5 + 10 * w) (upd (g.1 (5 + 10 * w)) (Int32.toNatClampNeg (g.2 (3 + w))) x1)) (6 + 10 * w) (upd ((sA g (5 + 10 * w) (upd (g.1 (5 + 10 * w)) (Int32.toNatClampNeg (g.2 (3 + w))) x1)).1 (6 + 10 * w)) (Int32.toNatClampNeg ((sA g (5 + 10 * w) (upd (g.1 (5 + 10 * w)) (Int32.toNatClampNeg (g.2 (3 + w))) x1)).2 (3 + w))) x2)).1 (7 + 10 * w)) (Int32.toNatClampNeg ((sA (sA g (5 + 10 * w) (upd (g.1 (5 + 10 * w)) (Int32.toNatClampNeg (g.2 (3 + w))) x1)) (6 + 10 * w) (upd ((sA g (5 + 10 * w) (upd (g.1 (5 + 10 * w)) (Int32.toNatClampNeg (g.2 (3 + w))) x1)).1 (6 + 10 * w)) (Int32.toNatClampNeg ((sA g (5 + 10 * w) (upd (g.1 (5 + 10 * w)) (Int32.toNatClampNeg (g.2 (3 + w))) x1)).2 (3 + w))) x2)).2 (3 + w))) x3)).2 (3 + w))) x3)).2 (3 + w)) + 1)).2 (3 + w)) - 1) (sS (sA (sA (sA (sA g (5 + 10 * w) (upd (g.1 (5 + 10 * w)) (Int32.toNatClampNeg (g.2 (3 + w))) x1)) (6 + 10 * w) (upd ((sA g (5 + 10 * w) (upd (g.1 (5 + 10 * w)) (Int32.toNatClampNeg (g.2 (3 + w))) x1)).1 (6 + 10 * w)) (Int32.toNatClampNeg ((sA g (5 + 10 * w) (upd (g.1 (5 + 10 * w)) (Int32.toNatClampNeg (g.2 (3 + w))) x1)).2 (3 + w))) x2)) (7 + 10 * w) (upd ((sA (sA g (5 + 10 * w) (upd (g.1 (5 + 10 * w)) (Int32.toNatClampNeg (g.2 (3 + w))) x1)) (6 + 10 * w) (upd ((sA g (5 + 10 * w) (upd (g.1 (5 + 10 * w)) (Int32.toNatClampNeg (g.2 (3 + w))) x1)).1 (6 + 10 * w)) (Int32.toNatClampNeg ((sA g (5 + 10 * w) (upd (g.1 (5 + 10 * w)) (Int32.toNatClampNeg (g.2 (3 + w))) x1)).2 (3 + w))) x2)).1 (7 + 10 * w)) (Int32.toNatClampNeg ((sA (sA g (5 + 10 * w) (upd (g.1 (5 + 10 * w)) (Int32.toNatClampNeg (g.2 (3 + w))) x1)) (6 + 10 * w) (upd ((sA g (5 + 10 * w) (upd (g.1 (5 + 10 * w)) (Int32.toNatClampNeg (g.2 (3 + w))) x1)).1 (6 + 10 * w)) (Int32.toNatClampNeg ((sA g (5 + 10 * w) (upd (g.1 (5 + 10 * w)) (Int32.toNatClampNeg (g.2 (3 + w))) x1)).2 (3 + w))) x2)).2 (3 + w))) x3)) (8 + 10 * w) (upd ((sA (sA (sA g (5 + 10 * w) (upd (g.1 (5 + 10 * w)) (Int32.toNatClampNeg (g.2 (3 + w))) x1)) (6 + 10 * w) (upd ((sA g (5 + 10 * w) (upd (g.1 (5 + 10 * w)) (Int32.toNatClampNeg (g.2 (3 + w))) x1)).1 (6 + 10 * w)) (Int32.toNatClampNeg ((sA g (5 + 10 * w) (upd (g.1 (5 + 10 * w)) (Int32.toNatClampNeg (g.2 (3 + w))) x1)).2 (3 + w))) x2)) (7 + 10 * w) (upd ((sA (sA g (5 + 10 * w) (upd (g.1 (5 + 10 * w)) (Int32.toNatClampNeg (g.2 (3 + w))) x1)) (6 + 10 * w) (upd ((sA g (5 + 10 * w) (upd (g.1 (5 + 10 * w)) (Int32.toNatClampNeg (g.2 (3 + w))) x1)).1 (6 + 10 * w)) (Int32.toNatClampNeg ((sA g (5 + 10 * w) (upd (g.1 (5 + 10 * w)) (Int32.toNatClampNeg (g.2 (3 + w))) x1)).2 (3 + w))) x2)).1 (7 + 10 * w)) (Int32.toNatClampNeg ((sA (sA g (5 + 10 * w) (upd (g.1 (5 + 10 * w)) (Int32.toNatClampNeg (g.2 (3 + w))) x1)) (6 + 10 * w) (upd ((sA g (5 + 10 * w) (upd (g.1 (5 + 10 * w)) (Int32.toNatClampNeg (g.2 (3 + w))) x1)).1 (6 + 10 * w)) (Int32.toNatClampNeg ((sA g (5 + 10 * w) (upd (g.1 (5 + 10 * w)) (Int32.toNatClampNeg (g.2 (3 + w))) x1)).2 (3 + w))) x2)).2 (3 + w))) x3)).1 (8 + 10 * w)) (Int32.toNatClampNeg ((sA (sA (sA g (5 + 10 * w) (upd (g.1 (5 + 10 * w)) (Int32.toNatClampNeg (g.2 (3 + w))) x1)) (6 + 10 * w) (upd ((sA g (5 + 10 * w) (upd (g.1 (5 + 10 * w)) (Int32.toNatClampNeg (g.2 (3 + w))) x1)).1 (6 + 10 * w)) (Int32.toNatClampNeg ((sA g (5 + 10 * w) (upd (g.1 (5 + 10 * w)) (Int32.toNatClampNeg (g.2 (3 + w))) x1)).2 (3 + w))) x2)) (7 + 10 * w) (upd ((sA (sA g (5 + 10 * w) (upd (g.1 (5 + 10 * w)) (Int32.toNatClampNeg (g.2 (3 + w))) x1)) (6 + 10 * w) (upd ((sA g (5 + 10 * w) (upd (g.1 (5 + 10 * w)) (Int32.toNatClampNeg (g.2 (3 + w))) x1)).1 (6 + 10 * w)) (Int32.toNatClampNeg ((sA g (5 + 10 * w) (upd (g.1 (5 + 10 * w)) (Int32.toNatClampNeg (g.2 (3 + w))) x1)).2 (3 + w))) x2)).1 (7 + 10 * w)) (Int32.toNatClampNeg ((sA (sA g (5 + 10 * w) (upd (g.1 (5 + 10 * w)) (Int32.toNatClampNeg (g.2 (3 + w))) x1)) (6 + 10 * w) (upd ((sA g (5 + 10 * w) (upd (g.1 (5 + 10 * w)) (Int32.toNatClampNeg (g.2 (3 + w))) x1)).1 (6 + 10 * w)) (Int32.toNatClampNeg ((sA g (5 + 10 * w) (upd (g.1 (5 + 10 * w)) (Int32.toNatClampNeg (g.2 (3 + w))) x1)).2 (3 + w))) x2)).2 (3 + w))) x3)).2 (3 + w))) x3)) (3 + w) (((sA (sA (sA (sA g (5 + 10 * w) (upd (g.1 (5 + 10 * w)) (Int32.toNatClampNeg (g.2 (3 + w))) x1)) (6 + 10 * w) (upd ((sA g (5 + 10 * w) (upd (g.1 (5 + 10 * w)) (Int32.toNatClampNeg (g.2 (3 + w))) x1)).1 (6 + 10 * w)) (Int32.toNatClampNeg ((sA g (5 + 10 * w) (upd (g.1 (5 + 10 * w)) (Int32.toNatClampNeg (g.2 (3 + w))) x1)).2 (3 + w))) x2)) (7 + 10 * w) (upd ((sA (sA g (5 + 10 * w) (upd (g.1 (5 + 10 * w)) (Int32.toNatClampNeg (g.2 (3 + w))) x1)) (6 + 10 * w) (upd ((sA g (5 + 10 * w) (upd (g.1 (5 + 10 * w)) (Int32.toNatClampNeg (g.2 (3 + w))) x1)).1 (6 + 10 * w)) (Int32.toNatClampNeg ((sA g (5 + 10 * w) (upd (g.1 (5 + 10 * w)) (Int32.toNatClampNeg (g.2 (3 + w))) x1)).2 (3 + w))) x2)).1 (7 + 10 * w)) (Int32.toNatClampNeg ((sA (sA g (5 + 10 * w) (upd (g.1 (5 + 10 * w)) (Int32.toNatClampNeg (g.2 (3 + w))) x1)) (6 + 10 * w) (upd ((sA g (5 + 10 * w) (upd (g.1 (5 + 10 * w)) (Int32.toNatClampNeg (g.2 (3 + w))) x1)).1 (6 + 10 * w)) (Int32.toNatClampNeg ((sA g (5 + 10 * w) (upd (g.1 (5 + 10 * w)) (Int32.toNatClampNeg (g.2 (3 + w))) x1)).2 (3 + w))) x2)).2 (3 + w))) x3)) (8 + 10 * w) (upd ((sA (sA (sA g (5 + 10 * w) (upd (g.1 (5 + 10 * w)) (Int32.toNatClampNeg (g.2 (3 + w))) x1)) (6 + 10 * w) (upd ((sA g (5 + 10 * w) (upd (g.1 (5 + 10 * w)) (Int32.toNatClampNeg (g.2 (3 + w))) x1)).1 (6 + 10 * w)) (Int32.toNatClampNeg ((sA g (5 + 10 * w) (upd (g.1 (5 + 10 * w)) (Int32.toNatClampNeg (g.2 (3 + w))) x1)).2 (3 + w))) x2)) (7 + 10 * w) (upd ((sA (sA g (5 + 10 * w) (upd (g.1 (5 + 10 * w)) (Int32.toNatClampNeg (g.2 (3 + w))) x1)) (6 + 10 * w) (upd ((sA g (5 + 10 * w) (upd (g.1 (5 + 10 * w)) (Int32.toNatClampNeg (g.2 (3 + w))) x1)).1 (6 + 10 * w)) (Int32.toNatClampNeg ((sA g (5 + 10 * w) (upd (g.1 (5 + 10 * w)) (Int32.toNatClampNeg (g.2 (3 + w))) x1)).2 (3 + w))) x2)).1 (7 + 10 * w)) (Int32.toNatClampNeg ((sA (sA g (5 + 10 * w) (upd (g.1 (5 + 10 * w)) (Int32.toNatClampNeg (g.2 (3 + w))) x1)) (6 + 10 * w) (upd ((sA g (5 + 10 * w) (upd (g.1 (5 + 10 * w)) (Int32.toNatClampNeg (g.2 (3 + w))) x1)).1 (6 + 10 * w)) (Int32.toNatClampNeg ((sA g (5 + 10 * w) (upd (g.1 (5 + 10 * w)) (Int32.toNatClampNeg (g.2 (3 + w))) x1)).2 (3 + w))) x2)).2 (3 + w))) x3)).1 (8 + 10 * w)) (Int32.toNatClampNeg ((sA (sA (sA g (5 + 10 * w) (upd (g.1 (5 + 10 * w)) (Int32.toNatClampNeg (g.2 (3 + w))) x1)) (6 + 10 * w) (upd ((sA g (5 + 10 * w) (upd (g.1 (5 + 10 * w)) (Int32.toNatClampNeg (g.2 (3 + w))) x1)).1 (6 + 10 * w)) (Int32.toNatClampNeg ((sA g (5 + 10 * w) (upd (g.1 (5 + 10 * w)) (Int32.toNatClampNeg (g.2 (3 + w))) x1)).2 (3 + w))) x2)) (7 + 10 * w) (upd ((sA (sA g (5 + 10 * w) (upd (g.1 (5 + 10 * w)) (Int32.toNatClampNeg (g.2 (3 + w))) x1)) (6 + 10 * w) (upd ((sA g (5 + 10 * w) (upd (g.1 (5 + 10 * w)) (Int32.toNatClampNeg (g.2 (3 + w))) x1)).1 (6 + 10 * w)) (Int32.toNatClampNeg ((sA g (5 + 10 * w) (upd (g.1 (5 + 10 * w)) (Int32.toNatClampNeg (g.2 (3 + w))) x1)).2 (3 + w))) x2)).1 (7 + 10 * w)) (Int32.toNatClampNeg ((sA (sA g (5 + 10 * w) (upd (g.1 (5 + 10 * w)) (Int32.toNatClampNeg (g.2 (3 + w))) x1)) (6 + 10 * w) (upd ((sA g (5 + 10 * w) (upd (g.1 (5 + 10 * w)) (Int32.toNatClampNeg (g.2 (3 + w))) x1)).1 (6 + 10 * w)) (Int32.toNatClampNeg ((sA g (5 + 10 * w) (upd (g.1 (5 + 10 * w)) (Int32.toNatClampNeg (g.2 (3 + w))) x1)).2 (3 + w))) x2)).2 (3 + w))) x3)).2 (3 + w))) x3)).2 (3 + w)) + 1))))))) ∧ (¬ (g.2 (3 + w)) < 24 → post (-1) g))
abbrev rm_X5_put : Room := { frames := 0, cells := 0, slots := 0, locals := 0 }
set_option maxHeartbeats 4000000 in
set_option maxRecDepth 100000 in
theorem c_X5_put (l : Launch) (D : va_G) (cs az a : Nat → Nat) {w : Nat} (hw : w < 2) (x1 : Int32) (x2 : Int32) (x3 : Int32) (g : St) (post : Int32 → St → Prop) (hv : V_X5_put w x1 x2 x3 g post) : uMi l yX5_put wsX5_put rm_X5_put D cs az (gW cs a) [.ref (a (4 + 10 * w)), .int x1, .int x2, .int x3] g post := by
  refine u_ofI (cc := cX5_put) (maxL := 4) (by decide) rfl (Nat.le_of_ble_eq_true rfl) ?_
  intro p e s m args below meth c F ls hC hr hk hl hE
  have hx := hC.1.1; have hb := hC.1.2.1; have hml := hC.1.2.2.1; have hts := hC.1.2.2.2.2
  have hown : s.vm.findClass RX5 = some m.cls := hC.1.2.2.2.1
  have hl : lv_has ls 4 [(0, .ref (a (4 + 10 * w))), (1, .int x1), (2, .int x2), (3, .int x3)] := hl
  unfold V_X5_put at hv
  refine lv_aload_n hx hb dX5_put_0 rfl (lv_at hl 0 rfl) ?_
  refine G_get (v := .int (g.2 (3 + w))) hC hE (fun _ h => List.mem_cons_of_mem _ (List.mem_append_left _ (List.mem_append_right _ h))) (f_units hw) rfl 4 (by decide) (hts (.fieldLink RX5 24 "SeedBattle$Units" "count" "I") (List.mem_of_getElem? (i := 1) rfl)) rfl dX5_put_1 ?_
  refine lv_bipush (v := 24) hx hb dX5_put_4 (by decide) ?_
  refine lv_icmp_lt (tgt := 11) hx hb dX5_put_6 (by decide) (fun c => ?_) (fun c => ?_)
  · have hv := hv.1 c
    refine lv_aload_n hx hb dX5_put_11 rfl (lv_at hl 0 rfl) ?_
    refine G_get (v := .ref (a (5 + 10 * w))) hC hE (fun _ h => List.mem_cons_of_mem _ (List.mem_append_left _ (List.mem_append_right _ h))) (f_units hw) rfl 0 (by decide) (hts (.fieldLink RX5 9 "SeedBattle$Units" "owners" "[I") (List.mem_of_getElem? (i := 2) rfl)) rfl dX5_put_12 ?_
    refine lv_aload_n hx hb dX5_put_15 rfl (lv_at hl 0 rfl) ?_
    refine G_get (v := .int (g.2 (3 + w))) hC hE (fun _ h => List.mem_cons_of_mem _ (List.mem_append_left _ (List.mem_append_right _ h))) (f_units hw) rfl 4 (by decide) (hts (.fieldLink RX5 24 "SeedBattle$Units" "count" "I") (List.mem_of_getElem? (i := 1) rfl)) rfl dX5_put_16 ?_
    refine lv_iload_n hx hb dX5_put_19 rfl (lv_at hl 1 rfl) ?_
    refine G_iast hC hE (f_owners hw) hv.1 dX5_put_20 (fun H locs hE => ?_)
    have hv := hv.2
    refine lv_aload_n hx hb dX5_put_21 rfl (lv_at hl 0 rfl) ?_
    refine G_get (v := .ref (a (6 + 10 * w))) hC hE (fun _ h => List.mem_cons_of_mem _ (List.mem_append_left _ (List.mem_append_right _ h))) (f_units hw) rfl 1 (by decide) (hts (.fieldLink RX5 15 "SeedBattle$Units" "kinds" "[I") (List.mem_of_getElem? (i := 3) rfl)) rfl dX5_put_22 ?_
    refine lv_aload_n hx hb dX5_put_25 rfl (lv_at hl 0 rfl) ?_
    refine G_get (v := .int ((sA g (5 + 10 * w) (upd (g.1 (5 + 10 * w)) (Int32.toNatClampNeg (g.2 (3 + w))) x1)).2 (3 + w))) hC hE (fun _ h => List.mem_cons_of_mem _ (List.mem_append_left _ (List.mem_append_right _ h))) (f_units hw) rfl 4 (by decide) (hts (.fieldLink RX5 24 "SeedBattle$Units" "count" "I") (List.mem_of_getElem? (i := 1) rfl)) rfl dX5_put_26 ?_
    refine lv_iload_n hx hb dX5_put_29 rfl (lv_at hl 2 rfl) ?_
    refine G_iast hC hE (f_kinds hw) hv.1 dX5_put_30 (fun H locs hE => ?_)
    have hv := hv.2
    refine lv_aload_n hx hb dX5_put_31 rfl (lv_at hl 0 rfl) ?_
    refine G_get (v := .ref (a (7 + 10 * w))) hC hE (fun _ h => List.mem_cons_of_mem _ (List.mem_append_left _ (List.mem_append_right _ h))) (f_units hw) rfl 2 (by decide) (hts (.fieldLink RX5 18 "SeedBattle$Units" "starts" "[I") (List.mem_of_getElem? (i := 4) rfl)) rfl dX5_put_32 ?_
    refine lv_aload_n hx hb dX5_put_35 rfl (lv_at hl 0 rfl) ?_
    refine G_get (v := .int ((sA (sA g (5 + 10 * w) (upd (g.1 (5 + 10 * w)) (Int32.toNatClampNeg (g.2 (3 + w))) x1)) (6 + 10 * w) (upd ((sA g (5 + 10 * w) (upd (g.1 (5 + 10 * w)) (Int32.toNatClampNeg (g.2 (3 + w))) x1)).1 (6 + 10 * w)) (Int32.toNatClampNeg ((sA g (5 + 10 * w) (upd (g.1 (5 + 10 * w)) (Int32.toNatClampNeg (g.2 (3 + w))) x1)).2 (3 + w))) x2)).2 (3 + w))) hC hE (fun _ h => List.mem_cons_of_mem _ (List.mem_append_left _ (List.mem_append_right _ h))) (f_units hw) rfl 4 (by decide) (hts (.fieldLink RX5 24 "SeedBattle$Units" "count" "I") (List.mem_of_getElem? (i := 1) rfl)) rfl dX5_put_36 ?_
    refine lv_iload_n hx hb dX5_put_39 rfl (lv_at hl 3 rfl) ?_
    refine G_iast hC hE (f_starts hw) hv.1 dX5_put_40 (fun H locs hE => ?_)
    have hv := hv.2
    refine lv_aload_n hx hb dX5_put_41 rfl (lv_at hl 0 rfl) ?_
    refine G_get (v := .ref (a (8 + 10 * w))) hC hE (fun _ h => List.mem_cons_of_mem _ (List.mem_append_left _ (List.mem_append_right _ h))) (f_units hw) rfl 3 (by decide) (hts (.fieldLink RX5 21 "SeedBattle$Units" "places" "[I") (List.mem_of_getElem? (i := 5) rfl)) rfl dX5_put_42 ?_
    refine lv_aload_n hx hb dX5_put_45 rfl (lv_at hl 0 rfl) ?_
    refine G_get (v := .int ((sA (sA (sA g (5 + 10 * w) (upd (g.1 (5 + 10 * w)) (Int32.toNatClampNeg (g.2 (3 + w))) x1)) (6 + 10 * w) (upd ((sA g (5 + 10 * w) (upd (g.1 (5 + 10 * w)) (Int32.toNatClampNeg (g.2 (3 + w))) x1)).1 (6 + 10 * w)) (Int32.toNatClampNeg ((sA g (5 + 10 * w) (upd (g.1 (5 + 10 * w)) (Int32.toNatClampNeg (g.2 (3 + w))) x1)).2 (3 + w))) x2)) (7 + 10 * w) (upd ((sA (sA g (5 + 10 * w) (upd (g.1 (5 + 10 * w)) (Int32.toNatClampNeg (g.2 (3 + w))) x1)) (6 + 10 * w) (upd ((sA g (5 + 10 * w) (upd (g.1 (5 + 10 * w)) (Int32.toNatClampNeg (g.2 (3 + w))) x1)).1 (6 + 10 * w)) (Int32.toNatClampNeg ((sA g (5 + 10 * w) (upd (g.1 (5 + 10 * w)) (Int32.toNatClampNeg (g.2 (3 + w))) x1)).2 (3 + w))) x2)).1 (7 + 10 * w)) (Int32.toNatClampNeg ((sA (sA g (5 + 10 * w) (upd (g.1 (5 + 10 * w)) (Int32.toNatClampNeg (g.2 (3 + w))) x1)) (6 + 10 * w) (upd ((sA g (5 + 10 * w) (upd (g.1 (5 + 10 * w)) (Int32.toNatClampNeg (g.2 (3 + w))) x1)).1 (6 + 10 * w)) (Int32.toNatClampNeg ((sA g (5 + 10 * w) (upd (g.1 (5 + 10 * w)) (Int32.toNatClampNeg (g.2 (3 + w))) x1)).2 (3 + w))) x2)).2 (3 + w))) x3)).2 (3 + w))) hC hE (fun _ h => List.mem_cons_of_mem _ (List.mem_append_left _ (List.mem_append_right _ h))) (f_units hw) rfl 4 (by decide) (hts (.fieldLink RX5 24 "SeedBattle$Units" "count" "I") (List.mem_of_getElem? (i := 1) rfl)) rfl dX5_put_46 ?_
    refine lv_iload_n hx hb dX5_put_49 rfl (lv_at hl 3 rfl) ?_
    refine G_iast hC hE (f_places hw) hv.1 dX5_put_50 (fun H locs hE => ?_)
    have hv := hv.2
    refine lv_aload_n hx hb dX5_put_51 rfl (lv_at hl 0 rfl) ?_
    refine lv_dup hx hb dX5_put_52 rfl ?_
    refine G_get (v := .int ((sA (sA (sA (sA g (5 + 10 * w) (upd (g.1 (5 + 10 * w)) (Int32.toNatClampNeg (g.2 (3 + w))) x1)) (6 + 10 * w) (upd ((sA g (5 + 10 * w) (upd (g.1 (5 + 10 * w)) (Int32.toNatClampNeg (g.2 (3 + w))) x1)).1 (6 + 10 * w)) (Int32.toNatClampNeg ((sA g (5 + 10 * w) (upd (g.1 (5 + 10 * w)) (Int32.toNatClampNeg (g.2 (3 + w))) x1)).2 (3 + w))) x2)) (7 + 10 * w) (upd ((sA (sA g (5 + 10 * w) (upd (g.1 (5 + 10 * w)) (Int32.toNatClampNeg (g.2 (3 + w))) x1)) (6 + 10 * w) (upd ((sA g (5 + 10 * w) (upd (g.1 (5 + 10 * w)) (Int32.toNatClampNeg (g.2 (3 + w))) x1)).1 (6 + 10 * w)) (Int32.toNatClampNeg ((sA g (5 + 10 * w) (upd (g.1 (5 + 10 * w)) (Int32.toNatClampNeg (g.2 (3 + w))) x1)).2 (3 + w))) x2)).1 (7 + 10 * w)) (Int32.toNatClampNeg ((sA (sA g (5 + 10 * w) (upd (g.1 (5 + 10 * w)) (Int32.toNatClampNeg (g.2 (3 + w))) x1)) (6 + 10 * w) (upd ((sA g (5 + 10 * w) (upd (g.1 (5 + 10 * w)) (Int32.toNatClampNeg (g.2 (3 + w))) x1)).1 (6 + 10 * w)) (Int32.toNatClampNeg ((sA g (5 + 10 * w) (upd (g.1 (5 + 10 * w)) (Int32.toNatClampNeg (g.2 (3 + w))) x1)).2 (3 + w))) x2)).2 (3 + w))) x3)) (8 + 10 * w) (upd ((sA (sA (sA g (5 + 10 * w) (upd (g.1 (5 + 10 * w)) (Int32.toNatClampNeg (g.2 (3 + w))) x1)) (6 + 10 * w) (upd ((sA g (5 + 10 * w) (upd (g.1 (5 + 10 * w)) (Int32.toNatClampNeg (g.2 (3 + w))) x1)).1 (6 + 10 * w)) (Int32.toNatClampNeg ((sA g (5 + 10 * w) (upd (g.1 (5 + 10 * w)) (Int32.toNatClampNeg (g.2 (3 + w))) x1)).2 (3 + w))) x2)) (7 + 10 * w) (upd ((sA (sA g (5 + 10 * w) (upd (g.1 (5 + 10 * w)) (Int32.toNatClampNeg (g.2 (3 + w))) x1)) (6 + 10 * w) (upd ((sA g (5 + 10 * w) (upd (g.1 (5 + 10 * w)) (Int32.toNatClampNeg (g.2 (3 + w))) x1)).1 (6 + 10 * w)) (Int32.toNatClampNeg ((sA g (5 + 10 * w) (upd (g.1 (5 + 10 * w)) (Int32.toNatClampNeg (g.2 (3 + w))) x1)).2 (3 + w))) x2)).1 (7 + 10 * w)) (Int32.toNatClampNeg ((sA (sA g (5 + 10 * w) (upd (g.1 (5 + 10 * w)) (Int32.toNatClampNeg (g.2 (3 + w))) x1)) (6 + 10 * w) (upd ((sA g (5 + 10 * w) (upd (g.1 (5 + 10 * w)) (Int32.toNatClampNeg (g.2 (3 + w))) x1)).1 (6 + 10 * w)) (Int32.toNatClampNeg ((sA g (5 + 10 * w) (upd (g.1 (5 + 10 * w)) (Int32.toNatClampNeg (g.2 (3 + w))) x1)).2 (3 + w))) x2)).2 (3 + w))) x3)).1 (8 + 10 * w)) (Int32.toNatClampNeg ((sA (sA (sA g (5 + 10 * w) (upd (g.1 (5 + 10 * w)) (Int32.toNatClampNeg (g.2 (3 + w))) x1)) (6 + 10 * w) (upd ((sA g (5 + 10 * w) (upd (g.1 (5 + 10 * w)) (Int32.toNatClampNeg (g.2 (3 + w))) x1)).1 (6 + 10 * w)) (Int32.toNatClampNeg ((sA g (5 + 10 * w) (upd (g.1 (5 + 10 * w)) (Int32.toNatClampNeg (g.2 (3 + w))) x1)).2 (3 + w))) x2)) (7 + 10 * w) (upd ((sA (sA g (5 + 10 * w) (upd (g.1 (5 + 10 * w)) (Int32.toNatClampNeg (g.2 (3 + w))) x1)) (6 + 10 * w) (upd ((sA g (5 + 10 * w) (upd (g.1 (5 + 10 * w)) (Int32.toNatClampNeg (g.2 (3 + w))) x1)).1 (6 + 10 * w)) (Int32.toNatClampNeg ((sA g (5 + 10 * w) (upd (g.1 (5 + 10 * w)) (Int32.toNatClampNeg (g.2 (3 + w))) x1)).2 (3 + w))) x2)).1 (7 + 10 * w)) (Int32.toNatClampNeg ((sA (sA g (5 + 10 * w) (upd (g.1 (5 + 10 * w)) (Int32.toNatClampNeg (g.2 (3 + w))) x1)) (6 + 10 * w) (upd ((sA g (5 + 10 * w) (upd (g.1 (5 + 10 * w)) (Int32.toNatClampNeg (g.2 (3 + w))) x1)).1 (6 + 10 * w)) (Int32.toNatClampNeg ((sA g (5 + 10 * w) (upd (g.1 (5 + 10 * w)) (Int32.toNatClampNeg (g.2 (3 + w))) x1)).2 (3 + w))) x2)).2 (3 + w))) x3)).2 (3 + w))) x3)).2 (3 + w))) hC hE (fun _ h => List.mem_cons_of_mem _ (List.mem_append_left _ (List.mem_append_right _ h))) (f_units hw) rfl 4 (by decide) (hts (.fieldLink RX5 24 "SeedBattle$Units" "count" "I") (List.mem_of_getElem? (i := 1) rfl)) rfl dX5_put_53 ?_
    refine lv_iconst (v := 1) hx hb dX5_put_56 (by decide) ?_
    refine lv_iadd hx hb dX5_put_57 ?_
    refine G_put (v := (((sA (sA (sA (sA g (5 + 10 * w) (upd (g.1 (5 + 10 * w)) (Int32.toNatClampNeg (g.2 (3 + w))) x1)) (6 + 10 * w) (upd ((sA g (5 + 10 * w) (upd (g.1 (5 + 10 * w)) (Int32.toNatClampNeg (g.2 (3 + w))) x1)).1 (6 + 10 * w)) (Int32.toNatClampNeg ((sA g (5 + 10 * w) (upd (g.1 (5 + 10 * w)) (Int32.toNatClampNeg (g.2 (3 + w))) x1)).2 (3 + w))) x2)) (7 + 10 * w) (upd ((sA (sA g (5 + 10 * w) (upd (g.1 (5 + 10 * w)) (Int32.toNatClampNeg (g.2 (3 + w))) x1)) (6 + 10 * w) (upd ((sA g (5 + 10 * w) (upd (g.1 (5 + 10 * w)) (Int32.toNatClampNeg (g.2 (3 + w))) x1)).1 (6 + 10 * w)) (Int32.toNatClampNeg ((sA g (5 + 10 * w) (upd (g.1 (5 + 10 * w)) (Int32.toNatClampNeg (g.2 (3 + w))) x1)).2 (3 + w))) x2)).1 (7 + 10 * w)) (Int32.toNatClampNeg ((sA (sA g (5 + 10 * w) (upd (g.1 (5 + 10 * w)) (Int32.toNatClampNeg (g.2 (3 + w))) x1)) (6 + 10 * w) (upd ((sA g (5 + 10 * w) (upd (g.1 (5 + 10 * w)) (Int32.toNatClampNeg (g.2 (3 + w))) x1)).1 (6 + 10 * w)) (Int32.toNatClampNeg ((sA g (5 + 10 * w) (upd (g.1 (5 + 10 * w)) (Int32.toNatClampNeg (g.2 (3 + w))) x1)).2 (3 + w))) x2)).2 (3 + w))) x3)) (8 + 10 * w) (upd ((sA (sA (sA g (5 + 10 * w) (upd (g.1 (5 + 10 * w)) (Int32.toNatClampNeg (g.2 (3 + w))) x1)) (6 + 10 * w) (upd ((sA g (5 + 10 * w) (upd (g.1 (5 + 10 * w)) (Int32.toNatClampNeg (g.2 (3 + w))) x1)).1 (6 + 10 * w)) (Int32.toNatClampNeg ((sA g (5 + 10 * w) (upd (g.1 (5 + 10 * w)) (Int32.toNatClampNeg (g.2 (3 + w))) x1)).2 (3 + w))) x2)) (7 + 10 * w) (upd ((sA (sA g (5 + 10 * w) (upd (g.1 (5 + 10 * w)) (Int32.toNatClampNeg (g.2 (3 + w))) x1)) (6 + 10 * w) (upd ((sA g (5 + 10 * w) (upd (g.1 (5 + 10 * w)) (Int32.toNatClampNeg (g.2 (3 + w))) x1)).1 (6 + 10 * w)) (Int32.toNatClampNeg ((sA g (5 + 10 * w) (upd (g.1 (5 + 10 * w)) (Int32.toNatClampNeg (g.2 (3 + w))) x1)).2 (3 + w))) x2)).1 (7 + 10 * w)) (Int32.toNatClampNeg ((sA (sA g (5 + 10 * w) (upd (g.1 (5 + 10 * w)) (Int32.toNatClampNeg (g.2 (3 + w))) x1)) (6 + 10 * w) (upd ((sA g (5 + 10 * w) (upd (g.1 (5 + 10 * w)) (Int32.toNatClampNeg (g.2 (3 + w))) x1)).1 (6 + 10 * w)) (Int32.toNatClampNeg ((sA g (5 + 10 * w) (upd (g.1 (5 + 10 * w)) (Int32.toNatClampNeg (g.2 (3 + w))) x1)).2 (3 + w))) x2)).2 (3 + w))) x3)).1 (8 + 10 * w)) (Int32.toNatClampNeg ((sA (sA (sA g (5 + 10 * w) (upd (g.1 (5 + 10 * w)) (Int32.toNatClampNeg (g.2 (3 + w))) x1)) (6 + 10 * w) (upd ((sA g (5 + 10 * w) (upd (g.1 (5 + 10 * w)) (Int32.toNatClampNeg (g.2 (3 + w))) x1)).1 (6 + 10 * w)) (Int32.toNatClampNeg ((sA g (5 + 10 * w) (upd (g.1 (5 + 10 * w)) (Int32.toNatClampNeg (g.2 (3 + w))) x1)).2 (3 + w))) x2)) (7 + 10 * w) (upd ((sA (sA g (5 + 10 * w) (upd (g.1 (5 + 10 * w)) (Int32.toNatClampNeg (g.2 (3 + w))) x1)) (6 + 10 * w) (upd ((sA g (5 + 10 * w) (upd (g.1 (5 + 10 * w)) (Int32.toNatClampNeg (g.2 (3 + w))) x1)).1 (6 + 10 * w)) (Int32.toNatClampNeg ((sA g (5 + 10 * w) (upd (g.1 (5 + 10 * w)) (Int32.toNatClampNeg (g.2 (3 + w))) x1)).2 (3 + w))) x2)).1 (7 + 10 * w)) (Int32.toNatClampNeg ((sA (sA g (5 + 10 * w) (upd (g.1 (5 + 10 * w)) (Int32.toNatClampNeg (g.2 (3 + w))) x1)) (6 + 10 * w) (upd ((sA g (5 + 10 * w) (upd (g.1 (5 + 10 * w)) (Int32.toNatClampNeg (g.2 (3 + w))) x1)).1 (6 + 10 * w)) (Int32.toNatClampNeg ((sA g (5 + 10 * w) (upd (g.1 (5 + 10 * w)) (Int32.toNatClampNeg (g.2 (3 + w))) x1)).2 (3 + w))) x2)).2 (3 + w))) x3)).2 (3 + w))) x3)).2 (3 + w)) + 1)) (ty := .int) hC hE (fun _ h => List.mem_cons_of_mem _ (List.mem_append_left _ (List.mem_append_right _ h))) tyX5 tyX5_ok nmX5 (f_units hw) rfl 4 (3 + w) (by decide) (hts (.fieldLink RX5 24 "SeedBattle$Units" "count" "I") (List.mem_of_getElem? (i := 1) rfl)) rfl (by decide +kernel) rfl rfl (Nat.le_of_ble_eq_true rfl) (p_units_count_e (w := w)) (p_units_count_o (w := w) hw) dX5_put_58 (fun H locs hE => ?_)
    refine lv_aload_n hx hb dX5_put_61 rfl (lv_at hl 0 rfl) ?_
    refine G_get (v := .int ((sS (sA (sA (sA (sA g (5 + 10 * w) (upd (g.1 (5 + 10 * w)) (Int32.toNatClampNeg (g.2 (3 + w))) x1)) (6 + 10 * w) (upd ((sA g (5 + 10 * w) (upd (g.1 (5 + 10 * w)) (Int32.toNatClampNeg (g.2 (3 + w))) x1)).1 (6 + 10 * w)) (Int32.toNatClampNeg ((sA g (5 + 10 * w) (upd (g.1 (5 + 10 * w)) (Int32.toNatClampNeg (g.2 (3 + w))) x1)).2 (3 + w))) x2)) (7 + 10 * w) (upd ((sA (sA g (5 + 10 * w) (upd (g.1 (5 + 10 * w)) (Int32.toNatClampNeg (g.2 (3 + w))) x1)) (6 + 10 * w) (upd ((sA g (5 + 10 * w) (upd (g.1 (5 + 10 * w)) (Int32.toNatClampNeg (g.2 (3 + w))) x1)).1 (6 + 10 * w)) (Int32.toNatClampNeg ((sA g (5 + 10 * w) (upd (g.1 (5 + 10 * w)) (Int32.toNatClampNeg (g.2 (3 + w))) x1)).2 (3 + w))) x2)).1 (7 + 10 * w)) (Int32.toNatClampNeg ((sA (sA g (5 + 10 * w) (upd (g.1 (5 + 10 * w)) (Int32.toNatClampNeg (g.2 (3 + w))) x1)) (6 + 10 * w) (upd ((sA g (5 + 10 * w) (upd (g.1 (5 + 10 * w)) (Int32.toNatClampNeg (g.2 (3 + w))) x1)).1 (6 + 10 * w)) (Int32.toNatClampNeg ((sA g (5 + 10 * w) (upd (g.1 (5 + 10 * w)) (Int32.toNatClampNeg (g.2 (3 + w))) x1)).2 (3 + w))) x2)).2 (3 + w))) x3)) (8 + 10 * w) (upd ((sA (sA (sA g (5 + 10 * w) (upd (g.1 (5 + 10 * w)) (Int32.toNatClampNeg (g.2 (3 + w))) x1)) (6 + 10 * w) (upd ((sA g (5 + 10 * w) (upd (g.1 (5 + 10 * w)) (Int32.toNatClampNeg (g.2 (3 + w))) x1)).1 (6 + 10 * w)) (Int32.toNatClampNeg ((sA g (5 + 10 * w) (upd (g.1 (5 + 10 * w)) (Int32.toNatClampNeg (g.2 (3 + w))) x1)).2 (3 + w))) x2)) (7 + 10 * w) (upd ((sA (sA g (5 + 10 * w) (upd (g.1 (5 + 10 * w)) (Int32.toNatClampNeg (g.2 (3 + w))) x1)) (6 + 10 * w) (upd ((sA g (5 + 10 * w) (upd (g.1 (5 + 10 * w)) (Int32.toNatClampNeg (g.2 (3 + w))) x1)).1 (6 + 10 * w)) (Int32.toNatClampNeg ((sA g (5 + 10 * w) (upd (g.1 (5 + 10 * w)) (Int32.toNatClampNeg (g.2 (3 + w))) x1)).2 (3 + w))) x2)).1 (7 + 10 * w)) (Int32.toNatClampNeg ((sA (sA g (5 + 10 * w) (upd (g.1 (5 + 10 * w)) (Int32.toNatClampNeg (g.2 (3 + w))) x1)) (6 + 10 * w) (upd ((sA g (5 + 10 * w) (upd (g.1 (5 + 10 * w)) (Int32.toNatClampNeg (g.2 (3 + w))) x1)).1 (6 + 10 * w)) (Int32.toNatClampNeg ((sA g (5 + 10 * w) (upd (g.1 (5 + 10 * w)) (Int32.toNatClampNeg (g.2 (3 + w))) x1)).2 (3 + w))) x2)).2 (3 + w))) x3)).1 (8 + 10 * w)) (Int32.toNatClampNeg ((sA (sA (sA g (5 + 10 * w) (upd (g.1 (5 + 10 * w)) (Int32.toNatClampNeg (g.2 (3 + w))) x1)) (6 + 10 * w) (upd ((sA g (5 + 10 * w) (upd (g.1 (5 + 10 * w)) (Int32.toNatClampNeg (g.2 (3 + w))) x1)).1 (6 + 10 * w)) (Int32.toNatClampNeg ((sA g (5 + 10 * w) (upd (g.1 (5 + 10 * w)) (Int32.toNatClampNeg (g.2 (3 + w))) x1)).2 (3 + w))) x2)) (7 + 10 * w) (upd ((sA (sA g (5 + 10 * w) (upd (g.1 (5 + 10 * w)) (Int32.toNatClampNeg (g.2 (3 + w))) x1)) (6 + 10 * w) (upd ((sA g (5 + 10 * w) (upd (g.1 (5 + 10 * w)) (Int32.toNatClampNeg (g.2 (3 + w))) x1)).1 (6 + 10 * w)) (Int32.toNatClampNeg ((sA g (5 + 10 * w) (upd (g.1 (5 + 10 * w)) (Int32.toNatClampNeg (g.2 (3 + w))) x1)).2 (3 + w))) x2)).1 (7 + 10 * w)) (Int32.toNatClampNeg ((sA (sA g (5 + 10 * w) (upd (g.1 (5 + 10 * w)) (Int32.toNatClampNeg (g.2 (3 + w))) x1)) (6 + 10 * w) (upd ((sA g (5 + 10 * w) (upd (g.1 (5 + 10 * w)) (Int32.toNatClampNeg (g.2 (3 + w))) x1)).1 (6 + 10 * w)) (Int32.toNatClampNeg ((sA g (5 + 10 * w) (upd (g.1 (5 + 10 * w)) (Int32.toNatClampNeg (g.2 (3 + w))) x1)).2 (3 + w))) x2)).2 (3 + w))) x3)).2 (3 + w))) x3)) (3 + w) (((sA (sA (sA (sA g (5 + 10 * w) (upd (g.1 (5 + 10 * w)) (Int32.toNatClampNeg (g.2 (3 + w))) x1)) (6 + 10 * w) (upd ((sA g (5 + 10 * w) (upd (g.1 (5 + 10 * w)) (Int32.toNatClampNeg (g.2 (3 + w))) x1)).1 (6 + 10 * w)) (Int32.toNatClampNeg ((sA g (5 + 10 * w) (upd (g.1 (5 + 10 * w)) (Int32.toNatClampNeg (g.2 (3 + w))) x1)).2 (3 + w))) x2)) (7 + 10 * w) (upd ((sA (sA g (5 + 10 * w) (upd (g.1 (5 + 10 * w)) (Int32.toNatClampNeg (g.2 (3 + w))) x1)) (6 + 10 * w) (upd ((sA g (5 + 10 * w) (upd (g.1 (5 + 10 * w)) (Int32.toNatClampNeg (g.2 (3 + w))) x1)).1 (6 + 10 * w)) (Int32.toNatClampNeg ((sA g (5 + 10 * w) (upd (g.1 (5 + 10 * w)) (Int32.toNatClampNeg (g.2 (3 + w))) x1)).2 (3 + w))) x2)).1 (7 + 10 * w)) (Int32.toNatClampNeg ((sA (sA g (5 + 10 * w) (upd (g.1 (5 + 10 * w)) (Int32.toNatClampNeg (g.2 (3 + w))) x1)) (6 + 10 * w) (upd ((sA g (5 + 10 * w) (upd (g.1 (5 + 10 * w)) (Int32.toNatClampNeg (g.2 (3 + w))) x1)).1 (6 + 10 * w)) (Int32.toNatClampNeg ((sA g (5 + 10 * w) (upd (g.1 (5 + 10 * w)) (Int32.toNatClampNeg (g.2 (3 + w))) x1)).2 (3 + w))) x2)).2 (3 + w))) x3)) (8 + 10 * w) (upd ((sA (sA (sA g (5 + 10 * w) (upd (g.1 (5 + 10 * w)) (Int32.toNatClampNeg (g.2 (3 + w))) x1)) (6 + 10 * w) (upd ((sA g (5 + 10 * w) (upd (g.1 (5 + 10 * w)) (Int32.toNatClampNeg (g.2 (3 + w))) x1)).1 (6 + 10 * w)) (Int32.toNatClampNeg ((sA g (5 + 10 * w) (upd (g.1 (5 + 10 * w)) (Int32.toNatClampNeg (g.2 (3 + w))) x1)).2 (3 + w))) x2)) (7 + 10 * w) (upd ((sA (sA g (5 + 10 * w) (upd (g.1 (5 + 10 * w)) (Int32.toNatClampNeg (g.2 (3 + w))) x1)) (6 + 10 * w) (upd ((sA g (5 + 10 * w) (upd (g.1 (5 + 10 * w)) (Int32.toNatClampNeg (g.2 (3 + w))) x1)).1 (6 + 10 * w)) (Int32.toNatClampNeg ((sA g (5 + 10 * w) (upd (g.1 (5 + 10 * w)) (Int32.toNatClampNeg (g.2 (3 + w))) x1)).2 (3 + w))) x2)).1 (7 + 10 * w)) (Int32.toNatClampNeg ((sA (sA g (5 + 10 * w) (upd (g.1 (5 + 10 * w)) (Int32.toNatClampNeg (g.2 (3 + w))) x1)) (6 + 10 * w) (upd ((sA g (5 + 10 * w) (upd (g.1 (5 + 10 * w)) (Int32.toNatClampNeg (g.2 (3 + w))) x1)).1 (6 + 10 * w)) (Int32.toNatClampNeg ((sA g (5 + 10 * w) (upd (g.1 (5 + 10 * w)) (Int32.toNatClampNeg (g.2 (3 + w))) x1)).2 (3 + w))) x2)).2 (3 + w))) x3)).1 (8 + 10 * w)) (Int32.toNatClampNeg ((sA (sA (sA g (5 + 10 * w) (upd (g.1 (5 + 10 * w)) (Int32.toNatClampNeg (g.2 (3 + w))) x1)) (6 + 10 * w) (upd ((sA g (5 + 10 * w) (upd (g.1 (5 + 10 * w)) (Int32.toNatClampNeg (g.2 (3 + w))) x1)).1 (6 + 10 * w)) (Int32.toNatClampNeg ((sA g (5 + 10 * w) (upd (g.1 (5 + 10 * w)) (Int32.toNatClampNeg (g.2 (3 + w))) x1)).2 (3 + w))) x2)) (7 + 10 * w) (upd ((sA (sA g (5 + 10 * w) (upd (g.1 (5 + 10 * w)) (Int32.toNatClampNeg (g.2 (3 + w))) x1)) (6 + 10 * w) (upd ((sA g (5 + 10 * w) (upd (g.1 (5 + 10 * w)) (Int32.toNatClampNeg (g.2 (3 + w))) x1)).1 (6 + 10 * w)) (Int32.toNatClampNeg ((sA g (5 + 10 * w) (upd (g.1 (5 + 10 * w)) (Int32.toNatClampNeg (g.2 (3 + w))) x1)).2 (3 + w))) x2)).1 (7 + 10 * w)) (Int32.toNatClampNeg ((sA (sA g (5 + 10 * w) (upd (g.1 (5 + 10 * w)) (Int32.toNatClampNeg (g.2 (3 + w))) x1)) (6 + 10 * w) (upd ((sA g (5 + 10 * w) (upd (g.1 (5 + 10 * w)) (Int32.toNatClampNeg (g.2 (3 + w))) x1)).1 (6 + 10 * w)) (Int32.toNatClampNeg ((sA g (5 + 10 * w) (upd (g.1 (5 + 10 * w)) (Int32.toNatClampNeg (g.2 (3 + w))) x1)).2 (3 + w))) x2)).2 (3 + w))) x3)).2 (3 + w))) x3)).2 (3 + w)) + 1)).2 (3 + w))) hC hE (fun _ h => List.mem_cons_of_mem _ (List.mem_append_left _ (List.mem_append_right _ h))) (f_units hw) rfl 4 (by decide) (hts (.fieldLink RX5 24 "SeedBattle$Units" "count" "I") (List.mem_of_getElem? (i := 1) rfl)) rfl dX5_put_62 ?_
    refine lv_iconst (v := 1) hx hb dX5_put_65 (by decide) ?_
    refine lv_isub hx hb dX5_put_66 ?_
    exact G_iret hC hr hk hE hv dX5_put_67
  · have hv := hv.2 c
    refine lv_iconst (v := (-1)) hx hb dX5_put_9 (by decide) ?_
    exact G_iret hC hr hk hE hv dX5_put_10
def J_X5_startLike_7  (post : St → Prop) (K7 : (Int32 × St) → Prop) (v2 : Int32) (g : St) : Prop := (((g.2 3) ≤ v2 → post g) ∧ (¬ (g.2 3) ≤ v2 → vp_in v2 24 ∧ (vp_in v2 24 ∧ (vp_in v2 24 ∧ (V_X5_put 1 (g.1 5 (Int32.toNatClampNeg v2)) (g.1 6 (Int32.toNatClampNeg v2)) (g.1 7 (Int32.toNatClampNeg v2)) g (fun r2 g1 => K7 ((v2 + 1), g1)))))))
def V_X5_startLike  (g : St) (post : St → Prop) : Prop := lpP (fun K7 (z : Int32 × St) => J_X5_startLike_7 post K7 z.1 z.2) (0, (sS g 4 0))
abbrev rm_X5_startLike : Room := { frames := 1, cells := 0, slots := 0, locals := 23 }
set_option maxHeartbeats 4000000 in
set_option maxRecDepth 100000 in
theorem c_X5_startLike (l : Launch) (D : va_G) (cs az a : Nat → Nat)  (g : St) (post : St → Prop) (hv : V_X5_startLike  g post) : uMv l yX5_startLike wsX5_startLike rm_X5_startLike D cs az (gW cs a) [.ref (a 14), .ref (a 4)] g post := by
  refine u_ofV (cc := cX5_startLike) (maxL := 3) (by decide) rfl (Nat.le_of_ble_eq_true rfl) ?_
  intro p e s m args below meth c F ls hC hr hk hl hE
  have hx := hC.1.1; have hb := hC.1.2.1; have hml := hC.1.2.2.1; have hts := hC.1.2.2.2.2
  have hown : s.vm.findClass RX5 = some m.cls := hC.1.2.2.2.1
  have hl : lv_has ls 3 [(0, .ref (a 14)), (1, .ref (a 4))] := hl
  unfold V_X5_startLike at hv
  have j_7 : ∀ (v2 : Int32) (g : St), lpP (fun K7 (z : Int32 × St) => J_X5_startLike_7 post K7 z.1 z.2) (v2, g) → ∀ (H : Heap) (locs : List Loc) (ls : Array Slot), uE D 52 gA (gO cs a) cs a F s g H locs → lv_has ls 3 [(0, .ref (a 14)), (1, .ref (a 4)), (2, .int v2)] → W p l e rm_X5_startLike s m args below meth c H locs 0 0 (MQ below (va_Qv post (uB D (uW 52 gA (gO cs a) cs a)) F) args s 0 0 F) (F0 m 7 ls []) := by
    intro  v2 g  hv
    obtain ⟨nn, hv⟩ := hv
    induction nn generalizing v2 g with
    | zero => exact False.elim hv
    | succ nn hK7 =>
      intro H locs ls hE hl
      have hv : J_X5_startLike_7 post (itP _ nn) v2 g := hv
      unfold J_X5_startLike_7 at hv
      refine lv_iload_n hx hb dX5_startLike_7 rfl (lv_at hl 2 rfl) ?_
      refine lv_aload_n hx hb dX5_startLike_8 rfl (lv_at hl 1 rfl) ?_
      refine G_get (v := .int (g.2 3)) hC hE (fun _ h => List.mem_cons_of_mem _ (List.mem_append_left _ (List.mem_append_right _ h))) (f_units (w := 0) (by decide)) rfl 4 (by decide) (hts (.fieldLink RX5 24 "SeedBattle$Units" "count" "I") (List.mem_of_getElem? (i := 1) rfl)) rfl dX5_startLike_9 ?_
      refine lv_icmp_ge (tgt := 44) hx hb dX5_startLike_12 (by decide) (fun c => ?_) (fun c => ?_)
      · have hv := hv.1 c
        exact G_vret hC hr hk hE hv dX5_startLike_44
      · have hv := hv.2 c
        refine lv_aload_n hx hb dX5_startLike_15 rfl (lv_at hl 0 rfl) ?_
        refine lv_aload_n hx hb dX5_startLike_16 rfl (lv_at hl 1 rfl) ?_
        refine G_get (v := .ref (a 5)) hC hE (fun _ h => List.mem_cons_of_mem _ (List.mem_append_left _ (List.mem_append_right _ h))) (f_units (w := 0) (by decide)) rfl 0 (by decide) (hts (.fieldLink RX5 9 "SeedBattle$Units" "owners" "[I") (List.mem_of_getElem? (i := 2) rfl)) rfl dX5_startLike_17 ?_
        refine lv_iload_n hx hb dX5_startLike_20 rfl (lv_at hl 2 rfl) ?_
        refine G_iald hC hE (f_owners (w := 0) (by decide)) hv.1 dX5_startLike_21 ?_
        have hv := hv.2
        refine lv_aload_n hx hb dX5_startLike_22 rfl (lv_at hl 1 rfl) ?_
        refine G_get (v := .ref (a 6)) hC hE (fun _ h => List.mem_cons_of_mem _ (List.mem_append_left _ (List.mem_append_right _ h))) (f_units (w := 0) (by decide)) rfl 1 (by decide) (hts (.fieldLink RX5 15 "SeedBattle$Units" "kinds" "[I") (List.mem_of_getElem? (i := 3) rfl)) rfl dX5_startLike_23 ?_
        refine lv_iload_n hx hb dX5_startLike_26 rfl (lv_at hl 2 rfl) ?_
        refine G_iald hC hE (f_kinds (w := 0) (by decide)) hv.1 dX5_startLike_27 ?_
        have hv := hv.2
        refine lv_aload_n hx hb dX5_startLike_28 rfl (lv_at hl 1 rfl) ?_
        refine G_get (v := .ref (a 7)) hC hE (fun _ h => List.mem_cons_of_mem _ (List.mem_append_left _ (List.mem_append_right _ h))) (f_units (w := 0) (by decide)) rfl 2 (by decide) (hts (.fieldLink RX5 18 "SeedBattle$Units" "starts" "[I") (List.mem_of_getElem? (i := 4) rfl)) rfl dX5_startLike_29 ?_
        refine lv_iload_n hx hb dX5_startLike_32 rfl (lv_at hl 2 rfl) ?_
        refine G_iald hC hE (f_starts (w := 0) (by decide)) hv.1 dX5_startLike_33 ?_
        have hv := hv.2
        refine G_callVi hC (c_X5_put l D cs az a (w := 1) (by decide) (g.1 5 (Int32.toNatClampNeg v2)) (g.1 6 (Int32.toNatClampNeg v2)) (g.1 7 (Int32.toNatClampNeg v2)) g _ hv) (cwV 3 hts gX5_startLike_X5_put rfl rfl rfl (by decide +kernel) ⟨Nat.le_of_ble_eq_true rfl, Nat.le_of_ble_eq_true rfl⟩) (f_units (w := 1) (by decide)) rfl rfl hl rfl (Nat.le_of_ble_eq_true rfl) dX5_startLike_34 hE (fun r2 g1 H locs hv hE => ?_)
        refine lv_pop hx hb dX5_startLike_37 rfl ?_
        refine lv_iinc (v := (v2 + 1)) (lv' := [(2, .int (v2 + 1)), (0, .ref (a 14)), (1, .ref (a 4))]) hx hb dX5_startLike_38 hl (k := 2) rfl rfl (by decide) rfl (fun ls hl => ?_)
        refine lv_goto (tgt := 7) hx hb dX5_startLike_41 (by decide) ?_
        exact hK7 _ _  hv _ _ _ hE (lv_sub hl [1, 2, 0] rfl)
  refine lv_aload_n hx hb dX5_startLike_0 rfl (lv_at hl 0 rfl) ?_
  refine lv_iconst (v := 0) hx hb dX5_startLike_1 (by decide) ?_
  refine G_put (v := 0) (ty := .int) hC hE (fun _ h => List.mem_cons_of_mem _ (List.mem_append_left _ (List.mem_append_right _ h))) tyX5 tyX5_ok nmX5 (f_units (w := 1) (by decide)) rfl 4 4 (by decide) (hts (.fieldLink RX5 24 "SeedBattle$Units" "count" "I") (List.mem_of_getElem? (i := 1) rfl)) rfl (by decide +kernel) rfl rfl (Nat.le_of_ble_eq_true rfl) (p_units_count_e (w := 1)) (p_units_count_o (w := 1) (by decide)) dX5_startLike_2 (fun H locs hE => ?_)
  refine lv_iconst (v := 0) hx hb dX5_startLike_5 (by decide) ?_
  refine lv_istore_n (lv' := [(2, .int 0), (0, .ref (a 14)), (1, .ref (a 4))]) hx hb dX5_startLike_6 rfl hl (by decide) rfl (fun ls hl => ?_)
  exact j_7  _ _  hv _ _ _ hE (lv_sub hl [1, 2, 0] rfl)
