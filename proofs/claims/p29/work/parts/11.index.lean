def V_X4_givenTo (x1 : Int32) (g : St) (post : Int32 → St → Prop) : Prop := ((x1 < 0 → post 0 g) ∧ (¬ x1 < 0 → ((24 ≤ x1 → post 0 g) ∧ (¬ 24 ≤ x1 → vp_in x1 24 ∧ (post (g.1 23 (Int32.toNatClampNeg x1)) g)))))
abbrev rm_X4_givenTo : Room := { frames := 0, cells := 0, slots := 0, locals := 0 }
set_option maxHeartbeats 4000000 in
set_option maxRecDepth 100000 in
theorem c_X4_givenTo (l : Launch) (D : va_G) (cs az a : Nat → Nat) (x1 : Int32) (g : St) (post : Int32 → St → Prop) (hv : V_X4_givenTo x1 g post) : uMi l yX4_givenTo wsX4_givenTo rm_X4_givenTo D cs az (gW cs a) [.ref (a 21), .int x1] g post := by
  refine u_ofI (cc := cX4_givenTo) (maxL := 2) (by decide) rfl (Nat.le_of_ble_eq_true rfl) ?_
  intro p e s m args below meth c F ls hC hr hk hl hE
  have hx := hC.1.1; have hb := hC.1.2.1; have hml := hC.1.2.2.1; have hts := hC.1.2.2.2.2
  have hown : s.vm.findClass RX4 = some m.cls := hC.1.2.2.2.1
  have hl : lv_has ls 2 [(0, .ref (a 21)), (1, .int x1)] := hl
  unfold V_X4_givenTo at hv
  refine lv_iload_n hx hb dX4_givenTo_0 rfl (lv_at hl 1 rfl) ?_
  refine lv_if_lt (tgt := 19) hx hb dX4_givenTo_1 (by decide) (fun c => ?_) (fun c => ?_)
  · have hv := hv.1 c
    refine lv_iconst (v := 0) hx hb dX4_givenTo_19 (by decide) ?_
    exact G_iret hC hr hk hE hv dX4_givenTo_20
  · have hv := hv.2 c
    refine lv_iload_n hx hb dX4_givenTo_4 rfl (lv_at hl 1 rfl) ?_
    refine lv_bipush (v := 24) hx hb dX4_givenTo_5 (by decide) ?_
    refine lv_icmp_ge (tgt := 19) hx hb dX4_givenTo_7 (by decide) (fun c => ?_) (fun c => ?_)
    · have hv := hv.1 c
      refine lv_iconst (v := 0) hx hb dX4_givenTo_19 (by decide) ?_
      exact G_iret hC hr hk hE hv dX4_givenTo_20
    · have hv := hv.2 c
      refine lv_aload_n hx hb dX4_givenTo_10 rfl (lv_at hl 0 rfl) ?_
      refine G_get (v := .ref (a 23)) hC hE (fun _ h => List.mem_cons_of_mem _ (List.mem_append_left _ (List.mem_append_right _ h))) f_orders rfl 1 (by decide) (hts (.fieldLink RX4 15 "SeedBattle$Orders" "given" "[I") (List.mem_of_getElem? (i := 1) rfl)) rfl dX4_givenTo_11 ?_
      refine lv_iload_n hx hb dX4_givenTo_14 rfl (lv_at hl 1 rfl) ?_
      refine G_iald hC hE f_given hv.1 dX4_givenTo_15 ?_
      have hv := hv.2
      refine lv_goto (tgt := 20) hx hb dX4_givenTo_16 (by decide) ?_
      exact G_iret hC hr hk hE hv dX4_givenTo_20
def V_X4_direction (x1 : Int32) (x2 : Int32) (x3 : Int32) (g : St) (post : Int32 → St → Prop) : Prop := V_X4_spotOf x1 x2 x3 (fun r1 => ((¬ r1 = (-1) → vp_in r1 4800 ∧ (post (g.1 22 (Int32.toNatClampNeg r1)) g)) ∧ (r1 = (-1) → post (-1) g)))
abbrev rm_X4_direction : Room := { frames := 1, cells := 0, slots := 0, locals := 23 }
set_option maxHeartbeats 4000000 in
set_option maxRecDepth 100000 in
theorem c_X4_direction (l : Launch) (D : va_G) (cs az a : Nat → Nat) (x1 : Int32) (x2 : Int32) (x3 : Int32) (g : St) (post : Int32 → St → Prop) (hv : V_X4_direction x1 x2 x3 g post) : uMi l yX4_direction wsX4_direction rm_X4_direction D cs az (gW cs a) [.ref (a 21), .int x1, .int x2, .int x3] g post := by
  refine u_ofI (cc := cX4_direction) (maxL := 5) (by decide) rfl (Nat.le_of_ble_eq_true rfl) ?_
  intro p e s m args below meth c F ls hC hr hk hl hE
  have hx := hC.1.1; have hb := hC.1.2.1; have hml := hC.1.2.2.1; have hts := hC.1.2.2.2.2
  have hown : s.vm.findClass RX4 = some m.cls := hC.1.2.2.2.1
  have hl : lv_has ls 5 [(0, .ref (a 21)), (1, .int x1), (2, .int x2), (3, .int x3)] := hl
  unfold V_X4_direction at hv
  refine lv_iload_n hx hb dX4_direction_0 rfl (lv_at hl 1 rfl) ?_
  refine lv_iload_n hx hb dX4_direction_1 rfl (lv_at hl 2 rfl) ?_
  refine lv_iload_n hx hb dX4_direction_2 rfl (lv_at hl 3 rfl) ?_
  refine G_callSs hC.1 hC.2.2.2.2.1 (c_X4_spotOf l x1 x2 x3 _ hv) (va_cwS 3 hts gX4_direction_X4_spotOf rfl rfl rfl (by decide +kernel) ⟨Nat.le_of_ble_eq_true rfl, Nat.le_of_ble_eq_true rfl⟩) rfl hl rfl (Nat.le_of_ble_eq_true rfl) dX4_direction_3 (Nat.zero_le _) (Nat.zero_le _) (fun r1 hv => ?_)
  refine lv_istore (lv' := [(4, .int r1), (0, .ref (a 21)), (1, .int x1), (2, .int x2), (3, .int x3)]) hx hb dX4_direction_6 hl (by decide) rfl (fun ls hl => ?_)
  refine lv_iload hx hb dX4_direction_8 (lv_at hl 0 rfl) ?_
  refine lv_iconst (v := (-1)) hx hb dX4_direction_10 (by decide) ?_
  refine lv_icmp_ne (tgt := 18) hx hb dX4_direction_11 (by decide) (fun c => ?_) (fun c => ?_)
  · have hv := hv.1 c
    refine lv_aload_n hx hb dX4_direction_18 rfl (lv_at hl 1 rfl) ?_
    refine G_get (v := .ref (a 22)) hC hE (fun _ h => List.mem_cons_of_mem _ (List.mem_append_left _ (List.mem_append_right _ h))) f_orders rfl 0 (by decide) (hts (.fieldLink RX4 9 "SeedBattle$Orders" "directions" "[I") (List.mem_of_getElem? (i := 1) rfl)) rfl dX4_direction_19 ?_
    refine lv_iload hx hb dX4_direction_22 (lv_at hl 0 rfl) ?_
    refine G_iald hC hE f_dirs hv.1 dX4_direction_24 ?_
    have hv := hv.2
    exact G_iret hC hr hk hE hv dX4_direction_25
  · have hv := hv.2 c
    refine lv_iconst (v := (-1)) hx hb dX4_direction_14 (by decide) ?_
    refine lv_goto (tgt := 25) hx hb dX4_direction_15 (by decide) ?_
    exact G_iret hC hr hk hE hv dX4_direction_25
def V_X4_give (x1 : Int32) (x2 : Int32) (x3 : Int32) (g : St) (post : Int32 → St → Prop) : Prop := V_X4_givenTo x2 g (fun r2 g1 => V_X4_spotOf x1 x2 r2 (fun r3 => ((¬ r3 = (-1) → vp_in r3 4800 ∧ (vp_in x2 24 ∧ (vp_in x2 24 ∧ (vp_in x2 24 ∧ (post ((sA (sA g1 22 (upd (g1.1 22) (Int32.toNatClampNeg r3) x3)) 23 (upd ((sA g1 22 (upd (g1.1 22) (Int32.toNatClampNeg r3) x3)).1 23) (Int32.toNatClampNeg x2) (((sA g1 22 (upd (g1.1 22) (Int32.toNatClampNeg r3) x3)).1 23 (Int32.toNatClampNeg x2)) + 1))).1 23 (Int32.toNatClampNeg x2)) (sA (sA g1 22 (upd (g1.1 22) (Int32.toNatClampNeg r3) x3)) 23 (upd ((sA g1 22 (upd (g1.1 22) (Int32.toNatClampNeg r3) x3)).1 23) (Int32.toNatClampNeg x2) (((sA g1 22 (upd (g1.1 22) (Int32.toNatClampNeg r3) x3)).1 23 (Int32.toNatClampNeg x2)) + 1)))))))) ∧ (r3 = (-1) → V_X4_givenTo x2 g1 (fun r5 g4 => post r5 g4)))))
abbrev rm_X4_give : Room := { frames := 1, cells := 0, slots := 0, locals := 23 }
set_option maxHeartbeats 4000000 in
set_option maxRecDepth 100000 in
theorem c_X4_give (l : Launch) (D : va_G) (cs az a : Nat → Nat) (x1 : Int32) (x2 : Int32) (x3 : Int32) (g : St) (post : Int32 → St → Prop) (hv : V_X4_give x1 x2 x3 g post) : uMi l yX4_give wsX4_give rm_X4_give D cs az (gW cs a) [.ref (a 21), .int x1, .int x2, .int x3] g post := by
  refine u_ofI (cc := cX4_give) (maxL := 5) (by decide) rfl (Nat.le_of_ble_eq_true rfl) ?_
  intro p e s m args below meth c F ls hC hr hk hl hE
  have hx := hC.1.1; have hb := hC.1.2.1; have hml := hC.1.2.2.1; have hts := hC.1.2.2.2.2
  have hown : s.vm.findClass RX4 = some m.cls := hC.1.2.2.2.1
  have hl : lv_has ls 5 [(0, .ref (a 21)), (1, .int x1), (2, .int x2), (3, .int x3)] := hl
  unfold V_X4_give at hv
  refine lv_iload_n hx hb dX4_give_0 rfl (lv_at hl 1 rfl) ?_
  refine lv_iload_n hx hb dX4_give_1 rfl (lv_at hl 2 rfl) ?_
  refine lv_aload_n hx hb dX4_give_2 rfl (lv_at hl 0 rfl) ?_
  refine lv_iload_n hx hb dX4_give_3 rfl (lv_at hl 2 rfl) ?_
  refine G_callVi hC (c_X4_givenTo l D cs az a x2 g _ hv) (cwV 1 hts gX4_give_X4_givenTo rfl rfl rfl (by decide +kernel) ⟨Nat.le_of_ble_eq_true rfl, Nat.le_of_ble_eq_true rfl⟩) f_orders rfl rfl hl rfl (Nat.le_of_ble_eq_true rfl) dX4_give_4 hE (fun r2 g1 H locs hv hE => ?_)
  refine G_callSs hC.1 hC.2.2.2.2.1 (c_X4_spotOf l x1 x2 r2 _ hv) (va_cwS 3 hts gX4_give_X4_spotOf rfl rfl rfl (by decide +kernel) ⟨Nat.le_of_ble_eq_true rfl, Nat.le_of_ble_eq_true rfl⟩) rfl hl rfl (Nat.le_of_ble_eq_true rfl) dX4_give_7 (Nat.zero_le _) (Nat.zero_le _) (fun r3 hv => ?_)
  refine lv_istore (lv' := [(4, .int r3), (0, .ref (a 21)), (1, .int x1), (2, .int x2), (3, .int x3)]) hx hb dX4_give_10 hl (by decide) rfl (fun ls hl => ?_)
  refine lv_iload hx hb dX4_give_12 (lv_at hl 0 rfl) ?_
  refine lv_iconst (v := (-1)) hx hb dX4_give_14 (by decide) ?_
  refine lv_icmp_ne (tgt := 24) hx hb dX4_give_15 (by decide) (fun c => ?_) (fun c => ?_)
  · have hv := hv.1 c
    refine lv_aload_n hx hb dX4_give_24 rfl (lv_at hl 1 rfl) ?_
    refine G_get (v := .ref (a 22)) hC hE (fun _ h => List.mem_cons_of_mem _ (List.mem_append_left _ (List.mem_append_right _ h))) f_orders rfl 0 (by decide) (hts (.fieldLink RX4 9 "SeedBattle$Orders" "directions" "[I") (List.mem_of_getElem? (i := 1) rfl)) rfl dX4_give_25 ?_
    refine lv_iload hx hb dX4_give_28 (lv_at hl 0 rfl) ?_
    refine lv_iload_n hx hb dX4_give_30 rfl (lv_at hl 4 rfl) ?_
    refine G_iast hC hE f_dirs hv.1 dX4_give_31 (fun H locs hE => ?_)
    have hv := hv.2
    refine lv_aload_n hx hb dX4_give_32 rfl (lv_at hl 1 rfl) ?_
    refine G_get (v := .ref (a 23)) hC hE (fun _ h => List.mem_cons_of_mem _ (List.mem_append_left _ (List.mem_append_right _ h))) f_orders rfl 1 (by decide) (hts (.fieldLink RX4 15 "SeedBattle$Orders" "given" "[I") (List.mem_of_getElem? (i := 2) rfl)) rfl dX4_give_33 ?_
    refine lv_iload_n hx hb dX4_give_36 rfl (lv_at hl 3 rfl) ?_
    refine lv_dup2_11 hx hb dX4_give_37 rfl rfl ?_
    refine G_iald hC hE f_given hv.1 dX4_give_38 ?_
    have hv := hv.2
    refine lv_iconst (v := 1) hx hb dX4_give_39 (by decide) ?_
    refine lv_iadd hx hb dX4_give_40 ?_
    refine G_iast hC hE f_given hv.1 dX4_give_41 (fun H locs hE => ?_)
    have hv := hv.2
    refine lv_aload_n hx hb dX4_give_42 rfl (lv_at hl 1 rfl) ?_
    refine G_get (v := .ref (a 23)) hC hE (fun _ h => List.mem_cons_of_mem _ (List.mem_append_left _ (List.mem_append_right _ h))) f_orders rfl 1 (by decide) (hts (.fieldLink RX4 15 "SeedBattle$Orders" "given" "[I") (List.mem_of_getElem? (i := 2) rfl)) rfl dX4_give_43 ?_
    refine lv_iload_n hx hb dX4_give_46 rfl (lv_at hl 3 rfl) ?_
    refine G_iald hC hE f_given hv.1 dX4_give_47 ?_
    have hv := hv.2
    exact G_iret hC hr hk hE hv dX4_give_48
  · have hv := hv.2 c
    refine lv_aload_n hx hb dX4_give_18 rfl (lv_at hl 1 rfl) ?_
    refine lv_iload_n hx hb dX4_give_19 rfl (lv_at hl 3 rfl) ?_
    refine G_callVi hC (c_X4_givenTo l D cs az a x2 g1 _ hv) (cwV 1 hts gX4_give_X4_givenTo rfl rfl rfl (by decide +kernel) ⟨Nat.le_of_ble_eq_true rfl, Nat.le_of_ble_eq_true rfl⟩) f_orders rfl rfl hl rfl (Nat.le_of_ble_eq_true rfl) dX4_give_20 hE (fun r5 g4 H locs hv hE => ?_)
    exact G_iret hC hr hk hE hv dX4_give_23
def V_X3_at (w : Nat) (x1 : Int32) (g : St) (post : Int32 → St → Prop) : Prop := V_X6_isCell x1 (fun r1 => ((r1 = 0 → post 120 g) ∧ (¬ r1 = 0 → vp_in x1 64 ∧ ((narrow .char (.int (g.1 (3 + 10 * w) (Int32.toNatClampNeg x1))) = .int (g.1 (3 + 10 * w) (Int32.toNatClampNeg x1))) ∧ post (g.1 (3 + 10 * w) (Int32.toNatClampNeg x1)) g))))
abbrev rm_X3_at : Room := { frames := 1, cells := 0, slots := 0, locals := 20 }
set_option maxHeartbeats 4000000 in
set_option maxRecDepth 100000 in
theorem c_X3_at (l : Launch) (D : va_G) (cs az a : Nat → Nat) {w : Nat} (hw : w < 2) (x1 : Int32) (g : St) (post : Int32 → St → Prop) (hv : V_X3_at w x1 g post) : uMi l yX3_at wsX3_at rm_X3_at D cs az (gW cs a) [.ref (a (2 + 10 * w)), .int x1] g post := by
  refine u_ofI (cc := cX3_at) (maxL := 2) (by decide) rfl (Nat.le_of_ble_eq_true rfl) ?_
  intro p e s m args below meth c F ls hC hr hk hl hE
  have hx := hC.1.1; have hb := hC.1.2.1; have hml := hC.1.2.2.1; have hts := hC.1.2.2.2.2
  have hown : s.vm.findClass RX3 = some m.cls := hC.1.2.2.2.1
  have hl : lv_has ls 2 [(0, .ref (a (2 + 10 * w))), (1, .int x1)] := hl
  unfold V_X3_at at hv
  refine lv_iload_n hx hb dX3_at_0 rfl (lv_at hl 1 rfl) ?_
  refine G_callNs hC.1 hC.2.2.2.2.1 (c_X6_isCell l x1 _ hv) ⟨va_cnB 1 hts gX3_at_X6_isCell_n24 rfl rfl rfl (hC.2.2.2.2.1 _ (List.mem_of_getElem? (i := 25) rfl)) (hts _ (List.mem_of_getElem? (i := 3) rfl)) (by decide +kernel) ⟨Nat.le_of_ble_eq_true rfl, Nat.le_of_ble_eq_true rfl⟩, hts _ (List.mem_of_getElem? (i := 2) rfl), trivial⟩ rfl hl rfl (Nat.le_of_ble_eq_true rfl) dX3_at_1 (Nat.zero_le _) (Nat.zero_le _) (fun r1 hv => ?_)
  refine lv_if_eq (tgt := 16) hx hb dX3_at_4 (by decide) (fun c => ?_) (fun c => ?_)
  · have hv := hv.1 c
    refine lv_bipush (v := 120) hx hb dX3_at_16 (by decide) ?_
    exact G_zret hC hr hk hE rfl hv dX3_at_18
  · have hv := hv.2 c
    refine lv_aload_n hx hb dX3_at_7 rfl (lv_at hl 0 rfl) ?_
    refine G_get (v := .ref (a (3 + 10 * w))) hC hE (fun _ h => List.mem_cons_of_mem _ (List.mem_append_left _ (List.mem_append_right _ h))) (f_land hw) rfl 0 (by decide) (hts (.fieldLink RX3 9 "SeedBattle$Land" "grounds" "[C") (List.mem_of_getElem? (i := 1) rfl)) rfl dX3_at_8 ?_
    refine lv_iload_n hx hb dX3_at_11 rfl (lv_at hl 1 rfl) ?_
    refine G_cald hC hE (f_grounds hw) hv.1 dX3_at_12 ?_
    have hv := hv.2
    refine lv_goto (tgt := 18) hx hb dX3_at_13 (by decide) ?_
    exact G_zret hC hr hk hE hv.1 hv.2 dX3_at_18
def V_X3_beside (w : Nat) (x1 : Int32) (x2 : Int32) (g : St) (post : Int32 → St → Prop) : Prop := ((x2 < 0 → post x1 g) ∧ (¬ x2 < 0 → ((x2 < 8 → vp_in x2 8 ∧ (vp_in x2 8 ∧ (((((x1 - x1 / 8 * 8) + (kCols x2.toNatClampNeg)) < 0 → post x1 g) ∧ (¬ ((x1 - x1 / 8 * 8) + (kCols x2.toNatClampNeg)) < 0 → ((8 ≤ ((x1 - x1 / 8 * 8) + (kCols x2.toNatClampNeg)) → post x1 g) ∧ (¬ 8 ≤ ((x1 - x1 / 8 * 8) + (kCols x2.toNatClampNeg)) → ((((x1 / 8) + (kRows x2.toNatClampNeg)) < 0 → post x1 g) ∧ (¬ ((x1 / 8) + (kRows x2.toNatClampNeg)) < 0 → ((((x1 / 8) + (kRows x2.toNatClampNeg)) < 8 → V_X3_at w ((8 * ((x1 / 8) + (kRows x2.toNatClampNeg))) + ((x1 - x1 / 8 * 8) + (kCols x2.toNatClampNeg))) g (fun r2 g1 => ((¬ r2 = 120 → post ((8 * ((x1 / 8) + (kRows x2.toNatClampNeg))) + ((x1 - x1 / 8 * 8) + (kCols x2.toNatClampNeg))) g1) ∧ (r2 = 120 → post x1 g1)))) ∧ (¬ ((x1 / 8) + (kRows x2.toNatClampNeg)) < 8 → post x1 g))))))))))) ∧ (¬ x2 < 8 → post x1 g))))
abbrev rm_X3_beside : Room := { frames := 2, cells := 0, slots := 0, locals := 41 }
set_option maxHeartbeats 4000000 in
set_option maxRecDepth 100000 in
theorem c_X3_beside (l : Launch) (D : va_G) (cs az a : Nat → Nat) {w : Nat} (hw : w < 2) (x1 : Int32) (x2 : Int32) (g : St) (post : Int32 → St → Prop) (hv : V_X3_beside w x1 x2 g post) : uMi l yX3_beside wsX3_beside rm_X3_beside D cs az (gW cs a) [.ref (a (2 + 10 * w)), .int x1, .int x2] g post := by
  refine u_ofI (cc := cX3_beside) (maxL := 6) (by decide) rfl (Nat.le_of_ble_eq_true rfl) ?_
  intro p e s m args below meth c F ls hC hr hk hl hE
  have hx := hC.1.1; have hb := hC.1.2.1; have hml := hC.1.2.2.1; have hts := hC.1.2.2.2.2
  have hown : s.vm.findClass RX3 = some m.cls := hC.1.2.2.2.1
  have hl : lv_has ls 6 [(0, .ref (a (2 + 10 * w))), (1, .int x1), (2, .int x2)] := hl
  unfold V_X3_beside at hv
  refine lv_iload_n hx hb dX3_beside_0 rfl (lv_at hl 2 rfl) ?_
  refine lv_if_lt (tgt := 10) hx hb dX3_beside_1 (by decide) (fun c => ?_) (fun c => ?_)
  · have hv := hv.1 c
    refine lv_iload_n hx hb dX3_beside_10 rfl (lv_at hl 1 rfl) ?_
    exact G_iret hC hr hk hE hv dX3_beside_11
  · have hv := hv.2 c
    refine lv_iload_n hx hb dX3_beside_4 rfl (lv_at hl 2 rfl) ?_
    refine lv_bipush (v := 8) hx hb dX3_beside_5 (by decide) ?_
    refine lv_icmp_lt (tgt := 12) hx hb dX3_beside_7 (by decide) (fun c => ?_) (fun c => ?_)
    · have hv := hv.1 c
      refine lv_iload_n hx hb dX3_beside_12 rfl (lv_at hl 1 rfl) ?_
      refine lv_bipush (v := 8) hx hb dX3_beside_13 (by decide) ?_
      refine lv_irem hx hb dX3_beside_15 (by decide) ?_
      refine G_getsN hC hE hC.2.2.2.k3 (List.mem_of_getElem? (i := 8) rfl) dX3_beside_16 ?_
      refine lv_iload_n hx hb dX3_beside_19 rfl (lv_at hl 2 rfl) ?_
      refine G_tld hC hE hC.2.2.2.k3 hv.1 dX3_beside_20 ?_
      have hv := hv.2
      refine lv_iadd hx hb dX3_beside_21 ?_
      refine lv_istore_n (lv' := [(3, .int ((x1 - x1 / 8 * 8) + (kCols x2.toNatClampNeg))), (0, .ref (a (2 + 10 * w))), (1, .int x1), (2, .int x2)]) hx hb dX3_beside_22 rfl hl (by decide) rfl (fun ls hl => ?_)
      refine lv_iload_n hx hb dX3_beside_23 rfl (lv_at hl 2 rfl) ?_
      refine lv_bipush (v := 8) hx hb dX3_beside_24 (by decide) ?_
      refine lv_idiv hx hb dX3_beside_26 (by decide) ?_
      refine G_getsN hC hE hC.2.2.2.k4 (List.mem_of_getElem? (i := 9) rfl) dX3_beside_27 ?_
      refine lv_iload_n hx hb dX3_beside_30 rfl (lv_at hl 3 rfl) ?_
      refine G_tld hC hE hC.2.2.2.k4 hv.1 dX3_beside_31 ?_
      have hv := hv.2
      refine lv_iadd hx hb dX3_beside_32 ?_
      refine lv_istore (lv' := [(4, .int ((x1 / 8) + (kRows x2.toNatClampNeg))), (3, .int ((x1 - x1 / 8 * 8) + (kCols x2.toNatClampNeg))), (0, .ref (a (2 + 10 * w))), (1, .int x1), (2, .int x2)]) hx hb dX3_beside_33 hl (by decide) rfl (fun ls hl => ?_)
      refine lv_iload_n hx hb dX3_beside_35 rfl (lv_at hl 1 rfl) ?_
      refine lv_if_lt (tgt := 57) hx hb dX3_beside_36 (by decide) (fun c => ?_) (fun c => ?_)
      · have hv := hv.1 c
        refine lv_iload_n hx hb dX3_beside_57 rfl (lv_at hl 3 rfl) ?_
        exact G_iret hC hr hk hE hv dX3_beside_58
      · have hv := hv.2 c
        refine lv_iload_n hx hb dX3_beside_39 rfl (lv_at hl 1 rfl) ?_
        refine lv_bipush (v := 8) hx hb dX3_beside_40 (by decide) ?_
        refine lv_icmp_ge (tgt := 57) hx hb dX3_beside_42 (by decide) (fun c => ?_) (fun c => ?_)
        · have hv := hv.1 c
          refine lv_iload_n hx hb dX3_beside_57 rfl (lv_at hl 3 rfl) ?_
          exact G_iret hC hr hk hE hv dX3_beside_58
        · have hv := hv.2 c
          refine lv_iload hx hb dX3_beside_45 (lv_at hl 0 rfl) ?_
          refine lv_if_lt (tgt := 57) hx hb dX3_beside_47 (by decide) (fun c => ?_) (fun c => ?_)
          · have hv := hv.1 c
            refine lv_iload_n hx hb dX3_beside_57 rfl (lv_at hl 3 rfl) ?_
            exact G_iret hC hr hk hE hv dX3_beside_58
          · have hv := hv.2 c
            refine lv_iload hx hb dX3_beside_50 (lv_at hl 0 rfl) ?_
            refine lv_bipush (v := 8) hx hb dX3_beside_52 (by decide) ?_
            refine lv_icmp_lt (tgt := 59) hx hb dX3_beside_54 (by decide) (fun c => ?_) (fun c => ?_)
            · have hv := hv.1 c
              refine lv_bipush (v := 8) hx hb dX3_beside_59 (by decide) ?_
              refine lv_iload hx hb dX3_beside_61 (lv_at hl 0 rfl) ?_
              refine lv_imul hx hb dX3_beside_63 ?_
              refine lv_iload_n hx hb dX3_beside_64 rfl (lv_at hl 1 rfl) ?_
              refine lv_iadd hx hb dX3_beside_65 ?_
              refine lv_istore (lv' := [(5, .int ((8 * ((x1 / 8) + (kRows x2.toNatClampNeg))) + ((x1 - x1 / 8 * 8) + (kCols x2.toNatClampNeg)))), (4, .int ((x1 / 8) + (kRows x2.toNatClampNeg))), (3, .int ((x1 - x1 / 8 * 8) + (kCols x2.toNatClampNeg))), (0, .ref (a (2 + 10 * w))), (1, .int x1), (2, .int x2)]) hx hb dX3_beside_66 hl (by decide) rfl (fun ls hl => ?_)
              refine lv_aload_n hx hb dX3_beside_68 rfl (lv_at hl 3 rfl) ?_
              refine lv_iload hx hb dX3_beside_69 (lv_at hl 0 rfl) ?_
              refine G_callVi hC (c_X3_at l D cs az a (w := w) hw ((8 * ((x1 / 8) + (kRows x2.toNatClampNeg))) + ((x1 - x1 / 8 * 8) + (kCols x2.toNatClampNeg))) g _ hv) (cwV 1 hts gX3_beside_X3_at rfl rfl rfl (by decide +kernel) ⟨Nat.le_of_ble_eq_true rfl, Nat.le_of_ble_eq_true rfl⟩) (f_land hw) rfl rfl hl rfl (Nat.le_of_ble_eq_true rfl) dX3_beside_71 hE (fun r2 g1 H locs hv hE => ?_)
              refine lv_bipush (v := 120) hx hb dX3_beside_74 (by decide) ?_
              refine lv_icmp_ne (tgt := 83) hx hb dX3_beside_76 (by decide) (fun c => ?_) (fun c => ?_)
              · have hv := hv.1 c
                refine lv_iload hx hb dX3_beside_83 (lv_at hl 0 rfl) ?_
                exact G_iret hC hr hk hE hv dX3_beside_85
              · have hv := hv.2 c
                refine lv_iload_n hx hb dX3_beside_79 rfl (lv_at hl 4 rfl) ?_
                refine lv_goto (tgt := 85) hx hb dX3_beside_80 (by decide) ?_
                exact G_iret hC hr hk hE hv dX3_beside_85
            · have hv := hv.2 c
              refine lv_iload_n hx hb dX3_beside_57 rfl (lv_at hl 3 rfl) ?_
              exact G_iret hC hr hk hE hv dX3_beside_58
    · have hv := hv.2 c
      refine lv_iload_n hx hb dX3_beside_10 rfl (lv_at hl 1 rfl) ?_
      exact G_iret hC hr hk hE hv dX3_beside_11
def J_X3_isClear_123 (w : Nat) (x1 : Int32) (x2 : Int32) (post : Int32 → St → Prop) (K48 : (Int32 × Int32 × Int32 × Int32 × Int32 × Int32 × St) → Prop) (v1 : Int32) (v3 : Int32) (v4 : Int32) (v5 : Int32) (v6 : Int32) (v7 : Int32) (g : St) : Prop := K48 (v1, v3, v4, v5, v6, (v7 + 1), g)
def J_X3_isClear_48 (w : Nat) (x1 : Int32) (x2 : Int32) (post : Int32 → St → Prop) (K48 : (Int32 × Int32 × Int32 × Int32 × Int32 × Int32 × St) → Prop) (v1 : Int32) (v3 : Int32) (v4 : Int32) (v5 : Int32) (v6 : Int32) (v7 : Int32) (g : St) : Prop := ((v5 ≤ v7 → post 1 g) ∧ (¬ v5 ≤ v7 → V_X3_share (v7 * v3) v5 (fun r4 => V_X3_share (v7 * v4) v5 (fun r5 => V_X3_at w ((8 * ((v1 / 8) + r5)) + ((v1 - v1 / 8 * 8) + r4)) g (fun r7 g6 => ((r7 = 104 → post 0 g6) ∧ (¬ r7 = 104 → ((¬ r7 = 119 → J_X3_isClear_123 w x1 x2 post K48 v1 v3 v4 v5 v6 v7 g6) ∧ (r7 = 119 → ((¬ v6 = 0 → J_X3_isClear_123 w x1 x2 post K48 v1 v3 v4 v5 v6 v7 g6) ∧ (v6 = 0 → post 0 g6)))))))))))
def J_X3_isClear_43 (w : Nat) (x1 : Int32) (x2 : Int32) (post : Int32 → St → Prop)  (v1 : Int32) (v3 : Int32) (v4 : Int32) (v5 : Int32) (t0 : Int32) (g : St) : Prop := lpP (fun K48 (z : Int32 × Int32 × Int32 × Int32 × Int32 × Int32 × St) => J_X3_isClear_48 w x1 x2 post K48 z.1 z.2.1 z.2.2.1 z.2.2.2.1 z.2.2.2.2.1 z.2.2.2.2.2.1 z.2.2.2.2.2.2) (v1, v3, v4, v5, t0, 1, g)
def V_X3_isClear (w : Nat) (x1 : Int32) (x2 : Int32) (g : St) (post : Int32 → St → Prop) : Prop := V_X3_distance x1 x2 (fun r1 => V_X3_at w x1 g (fun r3 g2 => ((¬ r3 = 104 → J_X3_isClear_43 w x1 x2 post x1 ((x2 - x2 / 8 * 8) - (x1 - x1 / 8 * 8)) ((x2 / 8) - (x1 / 8)) r1 0 g2) ∧ (r3 = 104 → J_X3_isClear_43 w x1 x2 post x1 ((x2 - x2 / 8 * 8) - (x1 - x1 / 8 * 8)) ((x2 / 8) - (x1 / 8)) r1 1 g2))))
abbrev rm_X3_isClear : Room := { frames := 2, cells := 0, slots := 0, locals := 44 }
set_option maxHeartbeats 4000000 in
set_option maxRecDepth 100000 in
theorem c_X3_isClear (l : Launch) (D : va_G) (cs az a : Nat → Nat) {w : Nat} (hw : w < 2) (x1 : Int32) (x2 : Int32) (g : St) (post : Int32 → St → Prop) (hv : V_X3_isClear w x1 x2 g post) : uMi l yX3_isClear wsX3_isClear rm_X3_isClear D cs az (gW cs a) [.ref (a (2 + 10 * w)), .int x1, .int x2] g post := by
  refine u_ofI (cc := cX3_isClear) (maxL := 11) (by decide) rfl (Nat.le_of_ble_eq_true rfl) ?_
  intro p e s m args below meth c F ls hC hr hk hl hE
  have hx := hC.1.1; have hb := hC.1.2.1; have hml := hC.1.2.2.1; have hts := hC.1.2.2.2.2
  have hown : s.vm.findClass RX3 = some m.cls := hC.1.2.2.2.1
  have hl : lv_has ls 11 [(0, .ref (a (2 + 10 * w))), (1, .int x1), (2, .int x2)] := hl
  unfold V_X3_isClear at hv
  have j_123 : ∀ (K48 : (Int32 × Int32 × Int32 × Int32 × Int32 × Int32 × St) → Prop), (∀ (v1 : Int32) (v3 : Int32) (v4 : Int32) (v5 : Int32) (v6 : Int32) (v7 : Int32) (g : St), K48 (v1, v3, v4, v5, v6, v7, g) → ∀ (H : Heap) (locs : List Loc) (ls : Array Slot), uE D 52 gA (gO cs a) cs a F s g H locs → lv_has ls 11 [(0, .ref (a (2 + 10 * w))), (1, .int v1), (3, .int v3), (4, .int v4), (5, .int v5), (6, .int v6), (7, .int v7)] → W p l e rm_X3_isClear s m args below meth c H locs 0 0 (MQ below (va_Qi post (uB D (uW 52 gA (gO cs a) cs a)) F) args s 0 0 F) (F0 m 48 ls [])) → ∀ (v1 : Int32) (v3 : Int32) (v4 : Int32) (v5 : Int32) (v6 : Int32) (v7 : Int32) (g : St), J_X3_isClear_123 w x1 x2 post K48 v1 v3 v4 v5 v6 v7 g → ∀ (H : Heap) (locs : List Loc) (ls : Array Slot), uE D 52 gA (gO cs a) cs a F s g H locs → lv_has ls 11 [(0, .ref (a (2 + 10 * w))), (1, .int v1), (3, .int v3), (4, .int v4), (5, .int v5), (6, .int v6), (7, .int v7)] → W p l e rm_X3_isClear s m args below meth c H locs 0 0 (MQ below (va_Qi post (uB D (uW 52 gA (gO cs a) cs a)) F) args s 0 0 F) (F0 m 123 ls []) := by
    intro K48 hK48 v1 v3 v4 v5 v6 v7 g  hv
    intro H locs ls hE hl
    unfold J_X3_isClear_123 at hv
    refine lv_iinc (v := (v7 + 1)) (lv' := [(7, .int (v7 + 1)), (0, .ref (a (2 + 10 * w))), (1, .int v1), (3, .int v3), (4, .int v4), (5, .int v5), (6, .int v6)]) hx hb dX3_isClear_123 hl (k := 6) rfl rfl (by decide) rfl (fun ls hl => ?_)
    refine lv_goto (tgt := 48) hx hb dX3_isClear_126 (by decide) ?_
    exact hK48 _ _ _ _ _ _ _  hv _ _ _ hE (lv_sub hl [1, 2, 3, 4, 5, 6, 0] rfl)
  have j_48 : ∀ (v1 : Int32) (v3 : Int32) (v4 : Int32) (v5 : Int32) (v6 : Int32) (v7 : Int32) (g : St), lpP (fun K48 (z : Int32 × Int32 × Int32 × Int32 × Int32 × Int32 × St) => J_X3_isClear_48 w x1 x2 post K48 z.1 z.2.1 z.2.2.1 z.2.2.2.1 z.2.2.2.2.1 z.2.2.2.2.2.1 z.2.2.2.2.2.2) (v1, v3, v4, v5, v6, v7, g) → ∀ (H : Heap) (locs : List Loc) (ls : Array Slot), uE D 52 gA (gO cs a) cs a F s g H locs → lv_has ls 11 [(0, .ref (a (2 + 10 * w))), (1, .int v1), (3, .int v3), (4, .int v4), (5, .int v5), (6, .int v6), (7, .int v7)] → W p l e rm_X3_isClear s m args below meth c H locs 0 0 (MQ below (va_Qi post (uB D (uW 52 gA (gO cs a) cs a)) F) args s 0 0 F) (F0 m 48 ls []) := by
    intro  v1 v3 v4 v5 v6 v7 g  hv
    obtain ⟨nn, hv⟩ := hv
    induction nn generalizing v1 v3 v4 v5 v6 v7 g with
    | zero => exact False.elim hv
    | succ nn hK48 =>
      intro H locs ls hE hl
      have hv : J_X3_isClear_48 w x1 x2 post (itP _ nn) v1 v3 v4 v5 v6 v7 g := hv
      unfold J_X3_isClear_48 at hv
      refine lv_iload hx hb dX3_isClear_48 (lv_at hl 6 rfl) ?_
      refine lv_iload hx hb dX3_isClear_50 (lv_at hl 4 rfl) ?_
      refine lv_icmp_ge (tgt := 129) hx hb dX3_isClear_52 (by decide) (fun c => ?_) (fun c => ?_)
      · have hv := hv.1 c
        refine lv_iconst (v := 1) hx hb dX3_isClear_129 (by decide) ?_
        exact G_zret hC hr hk hE rfl hv dX3_isClear_130
      · have hv := hv.2 c
        refine lv_iload_n hx hb dX3_isClear_55 rfl (lv_at hl 1 rfl) ?_
        refine lv_bipush (v := 8) hx hb dX3_isClear_56 (by decide) ?_
        refine lv_irem hx hb dX3_isClear_58 (by decide) ?_
        refine lv_iload hx hb dX3_isClear_59 (lv_at hl 6 rfl) ?_
        refine lv_iload_n hx hb dX3_isClear_61 rfl (lv_at hl 2 rfl) ?_
        refine lv_imul hx hb dX3_isClear_62 ?_
        refine lv_iload hx hb dX3_isClear_63 (lv_at hl 4 rfl) ?_
        refine G_callSs hC.1 hC.2.2.2.2.1 (c_X3_share l (v7 * v3) v5 _ hv) (va_cwS 2 hts gX3_isClear_X3_share rfl rfl rfl (by decide +kernel) ⟨Nat.le_of_ble_eq_true rfl, Nat.le_of_ble_eq_true rfl⟩) rfl hl rfl (Nat.le_of_ble_eq_true rfl) dX3_isClear_65 (Nat.zero_le _) (Nat.zero_le _) (fun r4 hv => ?_)
        refine lv_iadd hx hb dX3_isClear_68 ?_
        refine lv_istore (lv' := [(8, .int ((v1 - v1 / 8 * 8) + r4)), (0, .ref (a (2 + 10 * w))), (1, .int v1), (3, .int v3), (4, .int v4), (5, .int v5), (6, .int v6), (7, .int v7)]) hx hb dX3_isClear_69 hl (by decide) rfl (fun ls hl => ?_)
        refine lv_iload_n hx hb dX3_isClear_71 rfl (lv_at hl 2 rfl) ?_
        refine lv_bipush (v := 8) hx hb dX3_isClear_72 (by decide) ?_
        refine lv_idiv hx hb dX3_isClear_74 (by decide) ?_
        refine lv_iload hx hb dX3_isClear_75 (lv_at hl 7 rfl) ?_
        refine lv_iload hx hb dX3_isClear_77 (lv_at hl 4 rfl) ?_
        refine lv_imul hx hb dX3_isClear_79 ?_
        refine lv_iload hx hb dX3_isClear_80 (lv_at hl 5 rfl) ?_
        refine G_callSs hC.1 hC.2.2.2.2.1 (c_X3_share l (v7 * v4) v5 _ hv) (va_cwS 2 hts gX3_isClear_X3_share rfl rfl rfl (by decide +kernel) ⟨Nat.le_of_ble_eq_true rfl, Nat.le_of_ble_eq_true rfl⟩) rfl hl rfl (Nat.le_of_ble_eq_true rfl) dX3_isClear_82 (Nat.zero_le _) (Nat.zero_le _) (fun r5 hv => ?_)
        refine lv_iadd hx hb dX3_isClear_85 ?_
        refine lv_istore (lv' := [(9, .int ((v1 / 8) + r5)), (8, .int ((v1 - v1 / 8 * 8) + r4)), (0, .ref (a (2 + 10 * w))), (1, .int v1), (3, .int v3), (4, .int v4), (5, .int v5), (6, .int v6), (7, .int v7)]) hx hb dX3_isClear_86 hl (by decide) rfl (fun ls hl => ?_)
        refine lv_aload_n hx hb dX3_isClear_88 rfl (lv_at hl 2 rfl) ?_
        refine lv_bipush (v := 8) hx hb dX3_isClear_89 (by decide) ?_
        refine lv_iload hx hb dX3_isClear_91 (lv_at hl 0 rfl) ?_
        refine lv_imul hx hb dX3_isClear_93 ?_
        refine lv_iload hx hb dX3_isClear_94 (lv_at hl 1 rfl) ?_
        refine lv_iadd hx hb dX3_isClear_96 ?_
        refine G_callVi hC (c_X3_at l D cs az a (w := w) hw ((8 * ((v1 / 8) + r5)) + ((v1 - v1 / 8 * 8) + r4)) g _ hv) (cwV 1 hts gX3_isClear_X3_at rfl rfl rfl (by decide +kernel) ⟨Nat.le_of_ble_eq_true rfl, Nat.le_of_ble_eq_true rfl⟩) (f_land hw) rfl rfl hl rfl (Nat.le_of_ble_eq_true rfl) dX3_isClear_97 hE (fun r7 g6 H locs hv hE => ?_)
        refine lv_istore (lv' := [(10, .int r7), (9, .int ((v1 / 8) + r5)), (8, .int ((v1 - v1 / 8 * 8) + r4)), (0, .ref (a (2 + 10 * w))), (1, .int v1), (3, .int v3), (4, .int v4), (5, .int v5), (6, .int v6), (7, .int v7)]) hx hb dX3_isClear_100 hl (by decide) rfl (fun ls hl => ?_)
        refine lv_iload hx hb dX3_isClear_102 (lv_at hl 0 rfl) ?_
        refine lv_bipush (v := 104) hx hb dX3_isClear_104 (by decide) ?_
        refine lv_icmp_eq (tgt := 121) hx hb dX3_isClear_106 (by decide) (fun c => ?_) (fun c => ?_)
        · have hv := hv.1 c
          refine lv_iconst (v := 0) hx hb dX3_isClear_121 (by decide) ?_
          exact G_zret hC hr hk hE rfl hv dX3_isClear_122
        · have hv := hv.2 c
          refine lv_iload hx hb dX3_isClear_109 (lv_at hl 0 rfl) ?_
          refine lv_bipush (v := 119) hx hb dX3_isClear_111 (by decide) ?_
          refine lv_icmp_ne (tgt := 123) hx hb dX3_isClear_113 (by decide) (fun c => ?_) (fun c => ?_)
          · have hv := hv.1 c
            exact j_123 _ hK48 _ _ _ _ _ _ _  hv _ _ _ hE (lv_sub hl [3, 4, 5, 6, 7, 8, 9] rfl)
          · have hv := hv.2 c
            refine lv_iload hx hb dX3_isClear_116 (lv_at hl 8 rfl) ?_
            refine lv_if_ne (tgt := 123) hx hb dX3_isClear_118 (by decide) (fun c => ?_) (fun c => ?_)
            · have hv := hv.1 c
              exact j_123 _ hK48 _ _ _ _ _ _ _  hv _ _ _ hE (lv_sub hl [3, 4, 5, 6, 7, 8, 9] rfl)
            · have hv := hv.2 c
              refine lv_iconst (v := 0) hx hb dX3_isClear_121 (by decide) ?_
              exact G_zret hC hr hk hE rfl hv dX3_isClear_122
  have j_43 : ∀ (v1 : Int32) (v3 : Int32) (v4 : Int32) (v5 : Int32) (t0 : Int32) (g : St), J_X3_isClear_43 w x1 x2 post v1 v3 v4 v5 t0 g → ∀ (H : Heap) (locs : List Loc) (ls : Array Slot), uE D 52 gA (gO cs a) cs a F s g H locs → lv_has ls 11 [(0, .ref (a (2 + 10 * w))), (1, .int v1), (3, .int v3), (4, .int v4), (5, .int v5)] → W p l e rm_X3_isClear s m args below meth c H locs 0 0 (MQ below (va_Qi post (uB D (uW 52 gA (gO cs a) cs a)) F) args s 0 0 F) (F0 m 43 ls [.int t0]) := by
    intro  v1 v3 v4 v5 t0 g  hv
    intro H locs ls hE hl
    unfold J_X3_isClear_43 at hv
    refine lv_istore (lv' := [(6, .int t0), (0, .ref (a (2 + 10 * w))), (1, .int v1), (3, .int v3), (4, .int v4), (5, .int v5)]) hx hb dX3_isClear_43 hl (by decide) rfl (fun ls hl => ?_)
    refine lv_iconst (v := 1) hx hb dX3_isClear_45 (by decide) ?_
    refine lv_istore (lv' := [(7, .int 1), (6, .int t0), (0, .ref (a (2 + 10 * w))), (1, .int v1), (3, .int v3), (4, .int v4), (5, .int v5)]) hx hb dX3_isClear_46 hl (by decide) rfl (fun ls hl => ?_)
    exact j_48  _ _ _ _ _ _ _  hv _ _ _ hE (lv_sub hl [2, 3, 4, 5, 6, 1, 0] rfl)
  refine lv_iload_n hx hb dX3_isClear_0 rfl (lv_at hl 2 rfl) ?_
  refine lv_bipush (v := 8) hx hb dX3_isClear_1 (by decide) ?_
  refine lv_irem hx hb dX3_isClear_3 (by decide) ?_
  refine lv_iload_n hx hb dX3_isClear_4 rfl (lv_at hl 1 rfl) ?_
  refine lv_bipush (v := 8) hx hb dX3_isClear_5 (by decide) ?_
  refine lv_irem hx hb dX3_isClear_7 (by decide) ?_
  refine lv_isub hx hb dX3_isClear_8 ?_
  refine lv_istore_n (lv' := [(3, .int ((x2 - x2 / 8 * 8) - (x1 - x1 / 8 * 8))), (0, .ref (a (2 + 10 * w))), (1, .int x1), (2, .int x2)]) hx hb dX3_isClear_9 rfl hl (by decide) rfl (fun ls hl => ?_)
  refine lv_iload_n hx hb dX3_isClear_10 rfl (lv_at hl 3 rfl) ?_
  refine lv_bipush (v := 8) hx hb dX3_isClear_11 (by decide) ?_
  refine lv_idiv hx hb dX3_isClear_13 (by decide) ?_
  refine lv_iload_n hx hb dX3_isClear_14 rfl (lv_at hl 2 rfl) ?_
  refine lv_bipush (v := 8) hx hb dX3_isClear_15 (by decide) ?_
  refine lv_idiv hx hb dX3_isClear_17 (by decide) ?_
  refine lv_isub hx hb dX3_isClear_18 ?_
  refine lv_istore (lv' := [(4, .int ((x2 / 8) - (x1 / 8))), (3, .int ((x2 - x2 / 8 * 8) - (x1 - x1 / 8 * 8))), (0, .ref (a (2 + 10 * w))), (1, .int x1), (2, .int x2)]) hx hb dX3_isClear_19 hl (by decide) rfl (fun ls hl => ?_)
  refine lv_iload_n hx hb dX3_isClear_21 rfl (lv_at hl 3 rfl) ?_
  refine lv_iload_n hx hb dX3_isClear_22 rfl (lv_at hl 4 rfl) ?_
  refine G_callSs hC.1 hC.2.2.2.2.1 (c_X3_distance l x1 x2 _ hv) (va_cwS 2 hts gX3_isClear_X3_distance rfl rfl rfl (by decide +kernel) ⟨Nat.le_of_ble_eq_true rfl, Nat.le_of_ble_eq_true rfl⟩) rfl hl rfl (Nat.le_of_ble_eq_true rfl) dX3_isClear_23 (Nat.zero_le _) (Nat.zero_le _) (fun r1 hv => ?_)
  refine lv_istore (lv' := [(5, .int r1), (4, .int ((x2 / 8) - (x1 / 8))), (3, .int ((x2 - x2 / 8 * 8) - (x1 - x1 / 8 * 8))), (0, .ref (a (2 + 10 * w))), (1, .int x1), (2, .int x2)]) hx hb dX3_isClear_26 hl (by decide) rfl (fun ls hl => ?_)
  refine lv_aload_n hx hb dX3_isClear_28 rfl (lv_at hl 3 rfl) ?_
  refine lv_iload_n hx hb dX3_isClear_29 rfl (lv_at hl 4 rfl) ?_
  refine G_callVi hC (c_X3_at l D cs az a (w := w) hw x1 g _ hv) (cwV 1 hts gX3_isClear_X3_at rfl rfl rfl (by decide +kernel) ⟨Nat.le_of_ble_eq_true rfl, Nat.le_of_ble_eq_true rfl⟩) (f_land hw) rfl rfl hl rfl (Nat.le_of_ble_eq_true rfl) dX3_isClear_30 hE (fun r3 g2 H locs hv hE => ?_)
  refine lv_bipush (v := 104) hx hb dX3_isClear_33 (by decide) ?_
  refine lv_icmp_ne (tgt := 42) hx hb dX3_isClear_35 (by decide) (fun c => ?_) (fun c => ?_)
  · have hv := hv.1 c
    refine lv_iconst (v := 0) hx hb dX3_isClear_42 (by decide) ?_
    exact j_43  _ _ _ _ _ _  hv _ _ _ hE (lv_sub hl [3, 4, 2, 1, 0] rfl)
  · have hv := hv.2 c
    refine lv_iconst (v := 1) hx hb dX3_isClear_38 (by decide) ?_
    refine lv_goto (tgt := 43) hx hb dX3_isClear_39 (by decide) ?_
    exact j_43  _ _ _ _ _ _  hv _ _ _ hE (lv_sub hl [3, 4, 2, 1, 0] rfl)
def V_X2_at (ix : Nat) (x1 : Int32) (g : St) (post : Int32 → St → Prop) : Prop := ((x1 < 0 → post (-1) g) ∧ (¬ x1 < 0 → (((g.2 (10 + ix)) ≤ x1 → post (-1) g) ∧ (¬ (g.2 (10 + ix)) ≤ x1 → vp_in x1 61 ∧ (post (g.1 (29 + 2 * ix) (Int32.toNatClampNeg x1)) g)))))
abbrev rm_X2_at : Room := { frames := 0, cells := 0, slots := 0, locals := 0 }
set_option maxHeartbeats 4000000 in
set_option maxRecDepth 100000 in
theorem c_X2_at (l : Launch) (D : va_G) (cs az a : Nat → Nat) {ix : Nat} (hix : ix < 4) (x1 : Int32) (g : St) (post : Int32 → St → Prop) (hv : V_X2_at ix x1 g post) : uMi l yX2_at wsX2_at rm_X2_at D cs az (gW cs a) [.ref (a (28 + 2 * ix)), .int x1] g post := by
  refine u_ofI (cc := cX2_at) (maxL := 2) (by decide) rfl (Nat.le_of_ble_eq_true rfl) ?_
  intro p e s m args below meth c F ls hC hr hk hl hE
  have hx := hC.1.1; have hb := hC.1.2.1; have hml := hC.1.2.2.1; have hts := hC.1.2.2.2.2
  have hown : s.vm.findClass RX2 = some m.cls := hC.1.2.2.2.1
  have hl : lv_has ls 2 [(0, .ref (a (28 + 2 * ix))), (1, .int x1)] := hl
  unfold V_X2_at at hv
  refine lv_iload_n hx hb dX2_at_0 rfl (lv_at hl 1 rfl) ?_
  refine lv_if_lt (tgt := 21) hx hb dX2_at_1 (by decide) (fun c => ?_) (fun c => ?_)
  · have hv := hv.1 c
    refine lv_iconst (v := (-1)) hx hb dX2_at_21 (by decide) ?_
    exact G_iret hC hr hk hE hv dX2_at_22
  · have hv := hv.2 c
    refine lv_iload_n hx hb dX2_at_4 rfl (lv_at hl 1 rfl) ?_
    refine lv_aload_n hx hb dX2_at_5 rfl (lv_at hl 0 rfl) ?_
    refine G_get (v := .int (g.2 (10 + ix))) hC hE (fun _ h => List.mem_cons_of_mem _ (List.mem_append_left _ (List.mem_append_right _ h))) (f_index hix) rfl 1 (by decide) (hts (.fieldLink RX2 15 "SeedBattle$Index" "count" "I") (List.mem_of_getElem? (i := 1) rfl)) rfl dX2_at_6 ?_
    refine lv_icmp_ge (tgt := 21) hx hb dX2_at_9 (by decide) (fun c => ?_) (fun c => ?_)
    · have hv := hv.1 c
      refine lv_iconst (v := (-1)) hx hb dX2_at_21 (by decide) ?_
      exact G_iret hC hr hk hE hv dX2_at_22
    · have hv := hv.2 c
      refine lv_aload_n hx hb dX2_at_12 rfl (lv_at hl 0 rfl) ?_
      refine G_get (v := .ref (a (29 + 2 * ix))) hC hE (fun _ h => List.mem_cons_of_mem _ (List.mem_append_left _ (List.mem_append_right _ h))) (f_index hix) rfl 0 (by decide) (hts (.fieldLink RX2 9 "SeedBattle$Index" "numbers" "[I") (List.mem_of_getElem? (i := 2) rfl)) rfl dX2_at_13 ?_
      refine lv_iload_n hx hb dX2_at_16 rfl (lv_at hl 1 rfl) ?_
      refine G_iald hC hE (f_numbers hix) hv.1 dX2_at_17 ?_
      have hv := hv.2
      refine lv_goto (tgt := 22) hx hb dX2_at_18 (by decide) ?_
      exact G_iret hC hr hk hE hv dX2_at_22
def V_X2_clear (ix : Nat) (g : St) (post : St → Prop) : Prop := post (sS g (10 + ix) 0)
abbrev rm_X2_clear : Room := { frames := 0, cells := 0, slots := 0, locals := 0 }
set_option maxHeartbeats 4000000 in
set_option maxRecDepth 100000 in
theorem c_X2_clear (l : Launch) (D : va_G) (cs az a : Nat → Nat) {ix : Nat} (hix : ix < 4)  (g : St) (post : St → Prop) (hv : V_X2_clear ix g post) : uMv l yX2_clear wsX2_clear rm_X2_clear D cs az (gW cs a) [.ref (a (28 + 2 * ix))] g post := by
  refine u_ofV (cc := cX2_clear) (maxL := 1) (by decide) rfl (Nat.le_of_ble_eq_true rfl) ?_
  intro p e s m args below meth c F ls hC hr hk hl hE
  have hx := hC.1.1; have hb := hC.1.2.1; have hml := hC.1.2.2.1; have hts := hC.1.2.2.2.2
  have hown : s.vm.findClass RX2 = some m.cls := hC.1.2.2.2.1
  have hl : lv_has ls 1 [(0, .ref (a (28 + 2 * ix)))] := hl
  unfold V_X2_clear at hv
  refine lv_aload_n hx hb dX2_clear_0 rfl (lv_at hl 0 rfl) ?_
  refine lv_iconst (v := 0) hx hb dX2_clear_1 (by decide) ?_
  refine G_put (v := 0) (ty := .int) hC hE (fun _ h => List.mem_cons_of_mem _ (List.mem_append_right _ h)) tyX2 tyX2_ok nmX2 (f_index hix) rfl 1 (10 + ix) (by decide) (hts (.fieldLink RX2 15 "SeedBattle$Index" "count" "I") (List.mem_of_getElem? (i := 1) rfl)) rfl (by decide +kernel) rfl rfl (Nat.le_of_ble_eq_true rfl) (p_index_count_e (p := ix)) (p_index_count_o (p := ix) hix) dX2_clear_2 (fun H locs hE => ?_)
  exact G_vret hC hr hk hE hv dX2_clear_5
def J_X2_has_38 (ix : Nat) (x1 : Int32) (x2 : Int32) (post : Int32 → St → Prop) (K2 : (Int32 × Int32 × Int32 × St) → Prop) (v1 : Int32) (v2 : Int32) (v3 : Int32) (g : St) : Prop := K2 (v1, v2, (v3 + 1), g)
def J_X2_has_2 (ix : Nat) (x1 : Int32) (x2 : Int32) (post : Int32 → St → Prop) (K2 : (Int32 × Int32 × Int32 × St) → Prop) (v1 : Int32) (v2 : Int32) (v3 : Int32) (g : St) : Prop := (((g.2 (10 + ix)) ≤ v3 → post 0 g) ∧ (¬ (g.2 (10 + ix)) ≤ v3 → vp_in v3 61 ∧ (V_X6_turnOf (g.1 (29 + 2 * ix) (Int32.toNatClampNeg v3)) (fun r1 => ((¬ r1 = v1 → J_X2_has_38 ix x1 x2 post K2 v1 v2 v3 g) ∧ (r1 = v1 → vp_in v3 61 ∧ (V_X6_unitOf (g.1 (29 + 2 * ix) (Int32.toNatClampNeg v3)) (fun r2 => ((¬ r2 = v2 → J_X2_has_38 ix x1 x2 post K2 v1 v2 v3 g) ∧ (r2 = v2 → post 1 g))))))))))
def V_X2_has (ix : Nat) (x1 : Int32) (x2 : Int32) (g : St) (post : Int32 → St → Prop) : Prop := lpP (fun K2 (z : Int32 × Int32 × Int32 × St) => J_X2_has_2 ix x1 x2 post K2 z.1 z.2.1 z.2.2.1 z.2.2.2) (x1, x2, 0, g)
abbrev rm_X2_has : Room := { frames := 1, cells := 0, slots := 0, locals := 20 }
set_option maxHeartbeats 4000000 in
set_option maxRecDepth 100000 in
theorem c_X2_has (l : Launch) (D : va_G) (cs az a : Nat → Nat) {ix : Nat} (hix : ix < 4) (x1 : Int32) (x2 : Int32) (g : St) (post : Int32 → St → Prop) (hv : V_X2_has ix x1 x2 g post) : uMi l yX2_has wsX2_has rm_X2_has D cs az (gW cs a) [.ref (a (28 + 2 * ix)), .int x1, .int x2] g post := by
  refine u_ofI (cc := cX2_has) (maxL := 4) (by decide) rfl (Nat.le_of_ble_eq_true rfl) ?_
  intro p e s m args below meth c F ls hC hr hk hl hE
  have hx := hC.1.1; have hb := hC.1.2.1; have hml := hC.1.2.2.1; have hts := hC.1.2.2.2.2
  have hown : s.vm.findClass RX2 = some m.cls := hC.1.2.2.2.1
  have hl : lv_has ls 4 [(0, .ref (a (28 + 2 * ix))), (1, .int x1), (2, .int x2)] := hl
  unfold V_X2_has at hv
  have j_38 : ∀ (K2 : (Int32 × Int32 × Int32 × St) → Prop), (∀ (v1 : Int32) (v2 : Int32) (v3 : Int32) (g : St), K2 (v1, v2, v3, g) → ∀ (H : Heap) (locs : List Loc) (ls : Array Slot), uE D 52 gA (gO cs a) cs a F s g H locs → lv_has ls 4 [(0, .ref (a (28 + 2 * ix))), (1, .int v1), (2, .int v2), (3, .int v3)] → W p l e rm_X2_has s m args below meth c H locs 0 0 (MQ below (va_Qi post (uB D (uW 52 gA (gO cs a) cs a)) F) args s 0 0 F) (F0 m 2 ls [])) → ∀ (v1 : Int32) (v2 : Int32) (v3 : Int32) (g : St), J_X2_has_38 ix x1 x2 post K2 v1 v2 v3 g → ∀ (H : Heap) (locs : List Loc) (ls : Array Slot), uE D 52 gA (gO cs a) cs a F s g H locs → lv_has ls 4 [(0, .ref (a (28 + 2 * ix))), (1, .int v1), (2, .int v2), (3, .int v3)] → W p l e rm_X2_has s m args below meth c H locs 0 0 (MQ below (va_Qi post (uB D (uW 52 gA (gO cs a) cs a)) F) args s 0 0 F) (F0 m 38 ls []) := by
    intro K2 hK2 v1 v2 v3 g  hv
    intro H locs ls hE hl
    unfold J_X2_has_38 at hv
    refine lv_iinc (v := (v3 + 1)) (lv' := [(3, .int (v3 + 1)), (0, .ref (a (28 + 2 * ix))), (1, .int v1), (2, .int v2)]) hx hb dX2_has_38 hl (k := 3) rfl rfl (by decide) rfl (fun ls hl => ?_)
    refine lv_goto (tgt := 2) hx hb dX2_has_41 (by decide) ?_
    exact hK2 _ _ _ _  hv _ _ _ hE (lv_sub hl [1, 2, 3, 0] rfl)
  have j_2 : ∀ (v1 : Int32) (v2 : Int32) (v3 : Int32) (g : St), lpP (fun K2 (z : Int32 × Int32 × Int32 × St) => J_X2_has_2 ix x1 x2 post K2 z.1 z.2.1 z.2.2.1 z.2.2.2) (v1, v2, v3, g) → ∀ (H : Heap) (locs : List Loc) (ls : Array Slot), uE D 52 gA (gO cs a) cs a F s g H locs → lv_has ls 4 [(0, .ref (a (28 + 2 * ix))), (1, .int v1), (2, .int v2), (3, .int v3)] → W p l e rm_X2_has s m args below meth c H locs 0 0 (MQ below (va_Qi post (uB D (uW 52 gA (gO cs a) cs a)) F) args s 0 0 F) (F0 m 2 ls []) := by
    intro  v1 v2 v3 g  hv
    obtain ⟨nn, hv⟩ := hv
    induction nn generalizing v1 v2 v3 g with
    | zero => exact False.elim hv
    | succ nn hK2 =>
      intro H locs ls hE hl
      have hv : J_X2_has_2 ix x1 x2 post (itP _ nn) v1 v2 v3 g := hv
      unfold J_X2_has_2 at hv
      refine lv_iload_n hx hb dX2_has_2 rfl (lv_at hl 3 rfl) ?_
      refine lv_aload_n hx hb dX2_has_3 rfl (lv_at hl 0 rfl) ?_
      refine G_get (v := .int (g.2 (10 + ix))) hC hE (fun _ h => List.mem_cons_of_mem _ (List.mem_append_left _ (List.mem_append_right _ h))) (f_index hix) rfl 1 (by decide) (hts (.fieldLink RX2 15 "SeedBattle$Index" "count" "I") (List.mem_of_getElem? (i := 1) rfl)) rfl dX2_has_4 ?_
      refine lv_icmp_ge (tgt := 44) hx hb dX2_has_7 (by decide) (fun c => ?_) (fun c => ?_)
      · have hv := hv.1 c
        refine lv_iconst (v := 0) hx hb dX2_has_44 (by decide) ?_
        exact G_zret hC hr hk hE rfl hv dX2_has_45
      · have hv := hv.2 c
        refine lv_aload_n hx hb dX2_has_10 rfl (lv_at hl 0 rfl) ?_
        refine G_get (v := .ref (a (29 + 2 * ix))) hC hE (fun _ h => List.mem_cons_of_mem _ (List.mem_append_left _ (List.mem_append_right _ h))) (f_index hix) rfl 0 (by decide) (hts (.fieldLink RX2 9 "SeedBattle$Index" "numbers" "[I") (List.mem_of_getElem? (i := 2) rfl)) rfl dX2_has_11 ?_
        refine lv_iload_n hx hb dX2_has_14 rfl (lv_at hl 3 rfl) ?_
        refine G_iald hC hE (f_numbers hix) hv.1 dX2_has_15 ?_
        have hv := hv.2
        refine G_callNs hC.1 hC.2.2.2.2.1 (c_X6_turnOf l (g.1 (29 + 2 * ix) (Int32.toNatClampNeg v3)) _ hv) ⟨va_cnB 1 hts gX2_has_X6_turnOf_n30 rfl rfl rfl (hC.2.2.2.2.1 _ (List.mem_of_getElem? (i := 22) rfl)) (hts _ (List.mem_of_getElem? (i := 4) rfl)) (by decide +kernel) ⟨Nat.le_of_ble_eq_true rfl, Nat.le_of_ble_eq_true rfl⟩, hts _ (List.mem_of_getElem? (i := 3) rfl), trivial⟩ rfl hl rfl (Nat.le_of_ble_eq_true rfl) dX2_has_16 (Nat.zero_le _) (Nat.zero_le _) (fun r1 hv => ?_)
        refine lv_iload_n hx hb dX2_has_19 rfl (lv_at hl 1 rfl) ?_
        refine lv_icmp_ne (tgt := 38) hx hb dX2_has_20 (by decide) (fun c => ?_) (fun c => ?_)
        · have hv := hv.1 c
          exact j_38 _ hK2 _ _ _ _  hv _ _ _ hE (lv_sub hl [0, 1, 2, 3] rfl)
        · have hv := hv.2 c
          refine lv_aload_n hx hb dX2_has_23 rfl (lv_at hl 0 rfl) ?_
          refine G_get (v := .ref (a (29 + 2 * ix))) hC hE (fun _ h => List.mem_cons_of_mem _ (List.mem_append_left _ (List.mem_append_right _ h))) (f_index hix) rfl 0 (by decide) (hts (.fieldLink RX2 9 "SeedBattle$Index" "numbers" "[I") (List.mem_of_getElem? (i := 2) rfl)) rfl dX2_has_24 ?_
          refine lv_iload_n hx hb dX2_has_27 rfl (lv_at hl 3 rfl) ?_
          refine G_iald hC hE (f_numbers hix) hv.1 dX2_has_28 ?_
          have hv := hv.2
          refine G_callNs hC.1 hC.2.2.2.2.1 (c_X6_unitOf l (g.1 (29 + 2 * ix) (Int32.toNatClampNeg v3)) _ hv) ⟨va_cnB 1 hts gX2_has_X6_unitOf_n34 rfl rfl rfl (hC.2.2.2.2.1 _ (List.mem_of_getElem? (i := 23) rfl)) (hts _ (List.mem_of_getElem? (i := 4) rfl)) (by decide +kernel) ⟨Nat.le_of_ble_eq_true rfl, Nat.le_of_ble_eq_true rfl⟩, hts _ (List.mem_of_getElem? (i := 7) rfl), trivial⟩ rfl hl rfl (Nat.le_of_ble_eq_true rfl) dX2_has_29 (Nat.zero_le _) (Nat.zero_le _) (fun r2 hv => ?_)
          refine lv_iload_n hx hb dX2_has_32 rfl (lv_at hl 2 rfl) ?_
          refine lv_icmp_ne (tgt := 38) hx hb dX2_has_33 (by decide) (fun c => ?_) (fun c => ?_)
          · have hv := hv.1 c
            exact j_38 _ hK2 _ _ _ _  hv _ _ _ hE (lv_sub hl [0, 1, 2, 3] rfl)
          · have hv := hv.2 c
            refine lv_iconst (v := 1) hx hb dX2_has_36 (by decide) ?_
            exact G_zret hC hr hk hE rfl hv dX2_has_37
  refine lv_iconst (v := 0) hx hb dX2_has_0 (by decide) ?_
  refine lv_istore_n (lv' := [(3, .int 0), (0, .ref (a (28 + 2 * ix))), (1, .int x1), (2, .int x2)]) hx hb dX2_has_1 rfl hl (by decide) rfl (fun ls hl => ?_)
  exact j_2  _ _ _ _  hv _ _ _ hE (lv_sub hl [1, 2, 3, 0] rfl)
def J_X2_latestOnCell_7 (ix : Nat) (x1 : Int32) (post : Int32 → St → Prop) (K7 : (Int32 × Int32 × St) → Prop) (v1 : Int32) (v2 : Int32) (g : St) : Prop := ((v2 < 0 → post (-1) g) ∧ (¬ v2 < 0 → vp_in v2 61 ∧ (V_X6_placeOf (g.1 (29 + 2 * ix) (Int32.toNatClampNeg v2)) (fun r1 => ((¬ r1 = v1 → K7 (v1, (v2 + (-1)), g)) ∧ (r1 = v1 → vp_in v2 61 ∧ (post (g.1 (29 + 2 * ix) (Int32.toNatClampNeg v2)) g)))))))
def V_X2_latestOnCell (ix : Nat) (x1 : Int32) (g : St) (post : Int32 → St → Prop) : Prop := lpP (fun K7 (z : Int32 × Int32 × St) => J_X2_latestOnCell_7 ix x1 post K7 z.1 z.2.1 z.2.2) (x1, ((g.2 (10 + ix)) - 1), g)
abbrev rm_X2_latestOnCell : Room := { frames := 1, cells := 0, slots := 0, locals := 20 }
set_option maxHeartbeats 4000000 in
set_option maxRecDepth 100000 in
theorem c_X2_latestOnCell (l : Launch) (D : va_G) (cs az a : Nat → Nat) {ix : Nat} (hix : ix < 4) (x1 : Int32) (g : St) (post : Int32 → St → Prop) (hv : V_X2_latestOnCell ix x1 g post) : uMi l yX2_latestOnCell wsX2_latestOnCell rm_X2_latestOnCell D cs az (gW cs a) [.ref (a (28 + 2 * ix)), .int x1] g post := by
  refine u_ofI (cc := cX2_latestOnCell) (maxL := 3) (by decide) rfl (Nat.le_of_ble_eq_true rfl) ?_
  intro p e s m args below meth c F ls hC hr hk hl hE
  have hx := hC.1.1; have hb := hC.1.2.1; have hml := hC.1.2.2.1; have hts := hC.1.2.2.2.2
  have hown : s.vm.findClass RX2 = some m.cls := hC.1.2.2.2.1
  have hl : lv_has ls 3 [(0, .ref (a (28 + 2 * ix))), (1, .int x1)] := hl
  unfold V_X2_latestOnCell at hv
  have j_7 : ∀ (v1 : Int32) (v2 : Int32) (g : St), lpP (fun K7 (z : Int32 × Int32 × St) => J_X2_latestOnCell_7 ix x1 post K7 z.1 z.2.1 z.2.2) (v1, v2, g) → ∀ (H : Heap) (locs : List Loc) (ls : Array Slot), uE D 52 gA (gO cs a) cs a F s g H locs → lv_has ls 3 [(0, .ref (a (28 + 2 * ix))), (1, .int v1), (2, .int v2)] → W p l e rm_X2_latestOnCell s m args below meth c H locs 0 0 (MQ below (va_Qi post (uB D (uW 52 gA (gO cs a) cs a)) F) args s 0 0 F) (F0 m 7 ls []) := by
    intro  v1 v2 g  hv
    obtain ⟨nn, hv⟩ := hv
    induction nn generalizing v1 v2 g with
    | zero => exact False.elim hv
    | succ nn hK7 =>
      intro H locs ls hE hl
      have hv : J_X2_latestOnCell_7 ix x1 post (itP _ nn) v1 v2 g := hv
      unfold J_X2_latestOnCell_7 at hv
      refine lv_iload_n hx hb dX2_latestOnCell_7 rfl (lv_at hl 2 rfl) ?_
      refine lv_if_lt (tgt := 37) hx hb dX2_latestOnCell_8 (by decide) (fun c => ?_) (fun c => ?_)
      · have hv := hv.1 c
        refine lv_iconst (v := (-1)) hx hb dX2_latestOnCell_37 (by decide) ?_
        exact G_iret hC hr hk hE hv dX2_latestOnCell_38
      · have hv := hv.2 c
        refine lv_aload_n hx hb dX2_latestOnCell_11 rfl (lv_at hl 0 rfl) ?_
        refine G_get (v := .ref (a (29 + 2 * ix))) hC hE (fun _ h => List.mem_cons_of_mem _ (List.mem_append_left _ (List.mem_append_right _ h))) (f_index hix) rfl 0 (by decide) (hts (.fieldLink RX2 9 "SeedBattle$Index" "numbers" "[I") (List.mem_of_getElem? (i := 2) rfl)) rfl dX2_latestOnCell_12 ?_
        refine lv_iload_n hx hb dX2_latestOnCell_15 rfl (lv_at hl 2 rfl) ?_
        refine G_iald hC hE (f_numbers hix) hv.1 dX2_latestOnCell_16 ?_
        have hv := hv.2
        refine G_callNs hC.1 hC.2.2.2.2.1 (c_X6_placeOf l (g.1 (29 + 2 * ix) (Int32.toNatClampNeg v2)) _ hv) ⟨va_cnB 1 hts gX2_latestOnCell_X6_placeOf_n37 rfl rfl rfl (hC.2.2.2.2.1 _ (List.mem_of_getElem? (i := 24) rfl)) (hts _ (List.mem_of_getElem? (i := 4) rfl)) (by decide +kernel) ⟨Nat.le_of_ble_eq_true rfl, Nat.le_of_ble_eq_true rfl⟩, hts _ (List.mem_of_getElem? (i := 3) rfl), trivial⟩ rfl hl rfl (Nat.le_of_ble_eq_true rfl) dX2_latestOnCell_17 (Nat.zero_le _) (Nat.zero_le _) (fun r1 hv => ?_)
        refine lv_iload_n hx hb dX2_latestOnCell_20 rfl (lv_at hl 1 rfl) ?_
        refine lv_icmp_ne (tgt := 31) hx hb dX2_latestOnCell_21 (by decide) (fun c => ?_) (fun c => ?_)
        · have hv := hv.1 c
          refine lv_iinc (v := (v2 + (-1))) (lv' := [(2, .int (v2 + (-1))), (0, .ref (a (28 + 2 * ix))), (1, .int v1)]) hx hb dX2_latestOnCell_31 hl (k := 2) rfl rfl (by decide) rfl (fun ls hl => ?_)
          refine lv_goto (tgt := 7) hx hb dX2_latestOnCell_34 (by decide) ?_
          exact hK7 _ _ _  hv _ _ _ hE (lv_sub hl [1, 2, 0] rfl)
        · have hv := hv.2 c
          refine lv_aload_n hx hb dX2_latestOnCell_24 rfl (lv_at hl 0 rfl) ?_
          refine G_get (v := .ref (a (29 + 2 * ix))) hC hE (fun _ h => List.mem_cons_of_mem _ (List.mem_append_left _ (List.mem_append_right _ h))) (f_index hix) rfl 0 (by decide) (hts (.fieldLink RX2 9 "SeedBattle$Index" "numbers" "[I") (List.mem_of_getElem? (i := 2) rfl)) rfl dX2_latestOnCell_25 ?_
          refine lv_iload_n hx hb dX2_latestOnCell_28 rfl (lv_at hl 2 rfl) ?_
          refine G_iald hC hE (f_numbers hix) hv.1 dX2_latestOnCell_29 ?_
          have hv := hv.2
          exact G_iret hC hr hk hE hv dX2_latestOnCell_30
  refine lv_aload_n hx hb dX2_latestOnCell_0 rfl (lv_at hl 0 rfl) ?_
  refine G_get (v := .int (g.2 (10 + ix))) hC hE (fun _ h => List.mem_cons_of_mem _ (List.mem_append_left _ (List.mem_append_right _ h))) (f_index hix) rfl 1 (by decide) (hts (.fieldLink RX2 15 "SeedBattle$Index" "count" "I") (List.mem_of_getElem? (i := 1) rfl)) rfl dX2_latestOnCell_1 ?_
  refine lv_iconst (v := 1) hx hb dX2_latestOnCell_4 (by decide) ?_
  refine lv_isub hx hb dX2_latestOnCell_5 ?_
  refine lv_istore_n (lv' := [(2, .int ((g.2 (10 + ix)) - 1)), (0, .ref (a (28 + 2 * ix))), (1, .int x1)]) hx hb dX2_latestOnCell_6 rfl hl (by decide) rfl (fun ls hl => ?_)
  exact j_7  _ _ _  hv _ _ _ hE (lv_sub hl [1, 2, 0] rfl)
def J_X2_latestOfUnit_7 (ix : Nat) (x1 : Int32) (post : Int32 → St → Prop) (K7 : (Int32 × Int32 × St) → Prop) (v1 : Int32) (v2 : Int32) (g : St) : Prop := ((v2 < 0 → post (-1) g) ∧ (¬ v2 < 0 → vp_in v2 61 ∧ (V_X6_unitOf (g.1 (29 + 2 * ix) (Int32.toNatClampNeg v2)) (fun r1 => ((¬ r1 = v1 → K7 (v1, (v2 + (-1)), g)) ∧ (r1 = v1 → vp_in v2 61 ∧ (post (g.1 (29 + 2 * ix) (Int32.toNatClampNeg v2)) g)))))))
def V_X2_latestOfUnit (ix : Nat) (x1 : Int32) (g : St) (post : Int32 → St → Prop) : Prop := lpP (fun K7 (z : Int32 × Int32 × St) => J_X2_latestOfUnit_7 ix x1 post K7 z.1 z.2.1 z.2.2) (x1, ((g.2 (10 + ix)) - 1), g)
abbrev rm_X2_latestOfUnit : Room := { frames := 1, cells := 0, slots := 0, locals := 20 }
set_option maxHeartbeats 4000000 in
set_option maxRecDepth 100000 in
theorem c_X2_latestOfUnit (l : Launch) (D : va_G) (cs az a : Nat → Nat) {ix : Nat} (hix : ix < 4) (x1 : Int32) (g : St) (post : Int32 → St → Prop) (hv : V_X2_latestOfUnit ix x1 g post) : uMi l yX2_latestOfUnit wsX2_latestOfUnit rm_X2_latestOfUnit D cs az (gW cs a) [.ref (a (28 + 2 * ix)), .int x1] g post := by
  refine u_ofI (cc := cX2_latestOfUnit) (maxL := 3) (by decide) rfl (Nat.le_of_ble_eq_true rfl) ?_
  intro p e s m args below meth c F ls hC hr hk hl hE
  have hx := hC.1.1; have hb := hC.1.2.1; have hml := hC.1.2.2.1; have hts := hC.1.2.2.2.2
  have hown : s.vm.findClass RX2 = some m.cls := hC.1.2.2.2.1
  have hl : lv_has ls 3 [(0, .ref (a (28 + 2 * ix))), (1, .int x1)] := hl
  unfold V_X2_latestOfUnit at hv
  have j_7 : ∀ (v1 : Int32) (v2 : Int32) (g : St), lpP (fun K7 (z : Int32 × Int32 × St) => J_X2_latestOfUnit_7 ix x1 post K7 z.1 z.2.1 z.2.2) (v1, v2, g) → ∀ (H : Heap) (locs : List Loc) (ls : Array Slot), uE D 52 gA (gO cs a) cs a F s g H locs → lv_has ls 3 [(0, .ref (a (28 + 2 * ix))), (1, .int v1), (2, .int v2)] → W p l e rm_X2_latestOfUnit s m args below meth c H locs 0 0 (MQ below (va_Qi post (uB D (uW 52 gA (gO cs a) cs a)) F) args s 0 0 F) (F0 m 7 ls []) := by
    intro  v1 v2 g  hv
    obtain ⟨nn, hv⟩ := hv
    induction nn generalizing v1 v2 g with
    | zero => exact False.elim hv
    | succ nn hK7 =>
      intro H locs ls hE hl
      have hv : J_X2_latestOfUnit_7 ix x1 post (itP _ nn) v1 v2 g := hv
      unfold J_X2_latestOfUnit_7 at hv
      refine lv_iload_n hx hb dX2_latestOfUnit_7 rfl (lv_at hl 2 rfl) ?_
      refine lv_if_lt (tgt := 37) hx hb dX2_latestOfUnit_8 (by decide) (fun c => ?_) (fun c => ?_)
      · have hv := hv.1 c
        refine lv_iconst (v := (-1)) hx hb dX2_latestOfUnit_37 (by decide) ?_
        exact G_iret hC hr hk hE hv dX2_latestOfUnit_38
      · have hv := hv.2 c
        refine lv_aload_n hx hb dX2_latestOfUnit_11 rfl (lv_at hl 0 rfl) ?_
        refine G_get (v := .ref (a (29 + 2 * ix))) hC hE (fun _ h => List.mem_cons_of_mem _ (List.mem_append_left _ (List.mem_append_right _ h))) (f_index hix) rfl 0 (by decide) (hts (.fieldLink RX2 9 "SeedBattle$Index" "numbers" "[I") (List.mem_of_getElem? (i := 2) rfl)) rfl dX2_latestOfUnit_12 ?_
        refine lv_iload_n hx hb dX2_latestOfUnit_15 rfl (lv_at hl 2 rfl) ?_
        refine G_iald hC hE (f_numbers hix) hv.1 dX2_latestOfUnit_16 ?_
        have hv := hv.2
        refine G_callNs hC.1 hC.2.2.2.2.1 (c_X6_unitOf l (g.1 (29 + 2 * ix) (Int32.toNatClampNeg v2)) _ hv) ⟨va_cnB 1 hts gX2_latestOfUnit_X6_unitOf_n34 rfl rfl rfl (hC.2.2.2.2.1 _ (List.mem_of_getElem? (i := 23) rfl)) (hts _ (List.mem_of_getElem? (i := 4) rfl)) (by decide +kernel) ⟨Nat.le_of_ble_eq_true rfl, Nat.le_of_ble_eq_true rfl⟩, hts _ (List.mem_of_getElem? (i := 3) rfl), trivial⟩ rfl hl rfl (Nat.le_of_ble_eq_true rfl) dX2_latestOfUnit_17 (Nat.zero_le _) (Nat.zero_le _) (fun r1 hv => ?_)
        refine lv_iload_n hx hb dX2_latestOfUnit_20 rfl (lv_at hl 1 rfl) ?_
        refine lv_icmp_ne (tgt := 31) hx hb dX2_latestOfUnit_21 (by decide) (fun c => ?_) (fun c => ?_)
        · have hv := hv.1 c
          refine lv_iinc (v := (v2 + (-1))) (lv' := [(2, .int (v2 + (-1))), (0, .ref (a (28 + 2 * ix))), (1, .int v1)]) hx hb dX2_latestOfUnit_31 hl (k := 2) rfl rfl (by decide) rfl (fun ls hl => ?_)
          refine lv_goto (tgt := 7) hx hb dX2_latestOfUnit_34 (by decide) ?_
          exact hK7 _ _ _  hv _ _ _ hE (lv_sub hl [1, 2, 0] rfl)
        · have hv := hv.2 c
          refine lv_aload_n hx hb dX2_latestOfUnit_24 rfl (lv_at hl 0 rfl) ?_
          refine G_get (v := .ref (a (29 + 2 * ix))) hC hE (fun _ h => List.mem_cons_of_mem _ (List.mem_append_left _ (List.mem_append_right _ h))) (f_index hix) rfl 0 (by decide) (hts (.fieldLink RX2 9 "SeedBattle$Index" "numbers" "[I") (List.mem_of_getElem? (i := 2) rfl)) rfl dX2_latestOfUnit_25 ?_
          refine lv_iload_n hx hb dX2_latestOfUnit_28 rfl (lv_at hl 2 rfl) ?_
          refine G_iald hC hE (f_numbers hix) hv.1 dX2_latestOfUnit_29 ?_
          have hv := hv.2
          exact G_iret hC hr hk hE hv dX2_latestOfUnit_30
  refine lv_aload_n hx hb dX2_latestOfUnit_0 rfl (lv_at hl 0 rfl) ?_
  refine G_get (v := .int (g.2 (10 + ix))) hC hE (fun _ h => List.mem_cons_of_mem _ (List.mem_append_left _ (List.mem_append_right _ h))) (f_index hix) rfl 1 (by decide) (hts (.fieldLink RX2 15 "SeedBattle$Index" "count" "I") (List.mem_of_getElem? (i := 1) rfl)) rfl dX2_latestOfUnit_1 ?_
  refine lv_iconst (v := 1) hx hb dX2_latestOfUnit_4 (by decide) ?_
  refine lv_isub hx hb dX2_latestOfUnit_5 ?_
  refine lv_istore_n (lv' := [(2, .int ((g.2 (10 + ix)) - 1)), (0, .ref (a (28 + 2 * ix))), (1, .int x1)]) hx hb dX2_latestOfUnit_6 rfl hl (by decide) rfl (fun ls hl => ?_)
  exact j_7  _ _ _  hv _ _ _ hE (lv_sub hl [1, 2, 0] rfl)
def J_X2_dropFirst_2 (ix : Nat) (post : St → Prop) (K2 : (Int32 × St) → Prop) (v1 : Int32) (g : St) : Prop := (((g.2 (10 + ix)) ≤ v1 → post (sS g (10 + ix) ((g.2 (10 + ix)) - 1))) ∧ (¬ (g.2 (10 + ix)) ≤ v1 → vp_in v1 61 ∧ (vp_in (v1 - 1) 61 ∧ (K2 ((v1 + 1), (sA g (29 + 2 * ix) (upd (g.1 (29 + 2 * ix)) (Int32.toNatClampNeg (v1 - 1)) (g.1 (29 + 2 * ix) (Int32.toNatClampNeg v1)))))))))
def V_X2_dropFirst (ix : Nat) (g : St) (post : St → Prop) : Prop := lpP (fun K2 (z : Int32 × St) => J_X2_dropFirst_2 ix post K2 z.1 z.2) (1, g)
abbrev rm_X2_dropFirst : Room := { frames := 0, cells := 0, slots := 0, locals := 0 }
set_option maxHeartbeats 4000000 in
set_option maxRecDepth 100000 in
theorem c_X2_dropFirst (l : Launch) (D : va_G) (cs az a : Nat → Nat) {ix : Nat} (hix : ix < 4)  (g : St) (post : St → Prop) (hv : V_X2_dropFirst ix g post) : uMv l yX2_dropFirst wsX2_dropFirst rm_X2_dropFirst D cs az (gW cs a) [.ref (a (28 + 2 * ix))] g post := by
  refine u_ofV (cc := cX2_dropFirst) (maxL := 2) (by decide) rfl (Nat.le_of_ble_eq_true rfl) ?_
  intro p e s m args below meth c F ls hC hr hk hl hE
  have hx := hC.1.1; have hb := hC.1.2.1; have hml := hC.1.2.2.1; have hts := hC.1.2.2.2.2
  have hown : s.vm.findClass RX2 = some m.cls := hC.1.2.2.2.1
  have hl : lv_has ls 2 [(0, .ref (a (28 + 2 * ix)))] := hl
  unfold V_X2_dropFirst at hv
  have j_2 : ∀ (v1 : Int32) (g : St), lpP (fun K2 (z : Int32 × St) => J_X2_dropFirst_2 ix post K2 z.1 z.2) (v1, g) → ∀ (H : Heap) (locs : List Loc) (ls : Array Slot), uE D 52 gA (gO cs a) cs a F s g H locs → lv_has ls 2 [(0, .ref (a (28 + 2 * ix))), (1, .int v1)] → W p l e rm_X2_dropFirst s m args below meth c H locs 0 0 (MQ below (va_Qv post (uB D (uW 52 gA (gO cs a) cs a)) F) args s 0 0 F) (F0 m 2 ls []) := by
    intro  v1 g  hv
    obtain ⟨nn, hv⟩ := hv
    induction nn generalizing v1 g with
    | zero => exact False.elim hv
    | succ nn hK2 =>
      intro H locs ls hE hl
      have hv : J_X2_dropFirst_2 ix post (itP _ nn) v1 g := hv
      unfold J_X2_dropFirst_2 at hv
      refine lv_iload_n hx hb dX2_dropFirst_2 rfl (lv_at hl 1 rfl) ?_
      refine lv_aload_n hx hb dX2_dropFirst_3 rfl (lv_at hl 0 rfl) ?_
      refine G_get (v := .int (g.2 (10 + ix))) hC hE (fun _ h => List.mem_cons_of_mem _ (List.mem_append_left _ (List.mem_append_right _ h))) (f_index hix) rfl 1 (by decide) (hts (.fieldLink RX2 15 "SeedBattle$Index" "count" "I") (List.mem_of_getElem? (i := 1) rfl)) rfl dX2_dropFirst_4 ?_
      refine lv_icmp_ge (tgt := 30) hx hb dX2_dropFirst_7 (by decide) (fun c => ?_) (fun c => ?_)
      · have hv := hv.1 c
        refine lv_aload_n hx hb dX2_dropFirst_30 rfl (lv_at hl 0 rfl) ?_
        refine lv_dup hx hb dX2_dropFirst_31 rfl ?_
        refine G_get (v := .int (g.2 (10 + ix))) hC hE (fun _ h => List.mem_cons_of_mem _ (List.mem_append_left _ (List.mem_append_right _ h))) (f_index hix) rfl 1 (by decide) (hts (.fieldLink RX2 15 "SeedBattle$Index" "count" "I") (List.mem_of_getElem? (i := 1) rfl)) rfl dX2_dropFirst_32 ?_
        refine lv_iconst (v := 1) hx hb dX2_dropFirst_35 (by decide) ?_
        refine lv_isub hx hb dX2_dropFirst_36 ?_
        refine G_put (v := ((g.2 (10 + ix)) - 1)) (ty := .int) hC hE (fun _ h => List.mem_cons_of_mem _ (List.mem_append_left _ (List.mem_append_right _ h))) tyX2 tyX2_ok nmX2 (f_index hix) rfl 1 (10 + ix) (by decide) (hts (.fieldLink RX2 15 "SeedBattle$Index" "count" "I") (List.mem_of_getElem? (i := 1) rfl)) rfl (by decide +kernel) rfl rfl (Nat.le_of_ble_eq_true rfl) (p_index_count_e (p := ix)) (p_index_count_o (p := ix) hix) dX2_dropFirst_37 (fun H locs hE => ?_)
        exact G_vret hC hr hk hE hv dX2_dropFirst_40
      · have hv := hv.2 c
        refine lv_aload_n hx hb dX2_dropFirst_10 rfl (lv_at hl 0 rfl) ?_
        refine G_get (v := .ref (a (29 + 2 * ix))) hC hE (fun _ h => List.mem_cons_of_mem _ (List.mem_append_left _ (List.mem_append_right _ h))) (f_index hix) rfl 0 (by decide) (hts (.fieldLink RX2 9 "SeedBattle$Index" "numbers" "[I") (List.mem_of_getElem? (i := 2) rfl)) rfl dX2_dropFirst_11 ?_
        refine lv_iload_n hx hb dX2_dropFirst_14 rfl (lv_at hl 1 rfl) ?_
        refine lv_iconst (v := 1) hx hb dX2_dropFirst_15 (by decide) ?_
        refine lv_isub hx hb dX2_dropFirst_16 ?_
        refine lv_aload_n hx hb dX2_dropFirst_17 rfl (lv_at hl 0 rfl) ?_
        refine G_get (v := .ref (a (29 + 2 * ix))) hC hE (fun _ h => List.mem_cons_of_mem _ (List.mem_append_left _ (List.mem_append_right _ h))) (f_index hix) rfl 0 (by decide) (hts (.fieldLink RX2 9 "SeedBattle$Index" "numbers" "[I") (List.mem_of_getElem? (i := 2) rfl)) rfl dX2_dropFirst_18 ?_
        refine lv_iload_n hx hb dX2_dropFirst_21 rfl (lv_at hl 1 rfl) ?_
        refine G_iald hC hE (f_numbers hix) hv.1 dX2_dropFirst_22 ?_
        have hv := hv.2
        refine G_iast hC hE (f_numbers hix) hv.1 dX2_dropFirst_23 (fun H locs hE => ?_)
        have hv := hv.2
        refine lv_iinc (v := (v1 + 1)) (lv' := [(1, .int (v1 + 1)), (0, .ref (a (28 + 2 * ix)))]) hx hb dX2_dropFirst_24 hl (k := 1) rfl rfl (by decide) rfl (fun ls hl => ?_)
        refine lv_goto (tgt := 2) hx hb dX2_dropFirst_27 (by decide) ?_
        exact hK2 _ _  hv _ _ _ hE (lv_sub hl [1, 0] rfl)
  refine lv_iconst (v := 1) hx hb dX2_dropFirst_0 (by decide) ?_
  refine lv_istore_n (lv' := [(1, .int 1), (0, .ref (a (28 + 2 * ix)))]) hx hb dX2_dropFirst_1 rfl hl (by decide) rfl (fun ls hl => ?_)
  exact j_2  _ _  hv _ _ _ hE (lv_sub hl [1, 0] rfl)
def J_X2_add_60 (ix : Nat) (x1 : Int32) (x2 : Int32) (x3 : Int32) (post : St → Prop)  (v1 : Int32) (v2 : Int32) (v3 : Int32) (v4 : Int32) (g : St) : Prop := V_X6_numberFor v1 v2 v3 (fun r2 => vp_in v4 61 ∧ (((((sS (sA g (29 + 2 * ix) (upd (g.1 (29 + 2 * ix)) (Int32.toNatClampNeg v4) r2)) (10 + ix) (((sA g (29 + 2 * ix) (upd (g.1 (29 + 2 * ix)) (Int32.toNatClampNeg v4) r2)).2 (10 + ix)) + 1)).2 (10 + ix)) ≤ 60 → post (sS (sA g (29 + 2 * ix) (upd (g.1 (29 + 2 * ix)) (Int32.toNatClampNeg v4) r2)) (10 + ix) (((sA g (29 + 2 * ix) (upd (g.1 (29 + 2 * ix)) (Int32.toNatClampNeg v4) r2)).2 (10 + ix)) + 1))) ∧ (¬ ((sS (sA g (29 + 2 * ix) (upd (g.1 (29 + 2 * ix)) (Int32.toNatClampNeg v4) r2)) (10 + ix) (((sA g (29 + 2 * ix) (upd (g.1 (29 + 2 * ix)) (Int32.toNatClampNeg v4) r2)).2 (10 + ix)) + 1)).2 (10 + ix)) ≤ 60 → V_X2_dropFirst ix (sS (sA g (29 + 2 * ix) (upd (g.1 (29 + 2 * ix)) (Int32.toNatClampNeg v4) r2)) (10 + ix) (((sA g (29 + 2 * ix) (upd (g.1 (29 + 2 * ix)) (Int32.toNatClampNeg v4) r2)).2 (10 + ix)) + 1)) (fun g3 => post g3)))))
def J_X2_add_16 (ix : Nat) (x1 : Int32) (x2 : Int32) (x3 : Int32) (post : St → Prop) (K16 : (Int32 × Int32 × Int32 × Int32 × St) → Prop) (v1 : Int32) (v2 : Int32) (v3 : Int32) (v4 : Int32) (g : St) : Prop := ((v4 ≤ 0 → J_X2_add_60 ix x1 x2 x3 post v1 v2 v3 v4 g) ∧ (¬ v4 ≤ 0 → vp_in (v4 - 1) 61 ∧ (V_X2_isBehind (g.1 (29 + 2 * ix) (Int32.toNatClampNeg (v4 - 1))) v1 v3 (fun r1 => ((r1 = 0 → J_X2_add_60 ix x1 x2 x3 post v1 v2 v3 v4 g) ∧ (¬ r1 = 0 → vp_in (v4 - 1) 61 ∧ (vp_in v4 61 ∧ (K16 (v1, v2, v3, (v4 + (-1)), (sA g (29 + 2 * ix) (upd (g.1 (29 + 2 * ix)) (Int32.toNatClampNeg v4) (g.1 (29 + 2 * ix) (Int32.toNatClampNeg (v4 - 1))))))))))))))
def V_X2_add (ix : Nat) (x1 : Int32) (x2 : Int32) (x3 : Int32) (g : St) (post : St → Prop) : Prop := (((g.2 (10 + ix)) ≤ 60 → lpP (fun K16 (z : Int32 × Int32 × Int32 × Int32 × St) => J_X2_add_16 ix x1 x2 x3 post K16 z.1 z.2.1 z.2.2.1 z.2.2.2.1 z.2.2.2.2) (x1, x2, x3, (g.2 (10 + ix)), g)) ∧ (¬ (g.2 (10 + ix)) ≤ 60 → post g))
abbrev rm_X2_add : Room := { frames := 2, cells := 0, slots := 0, locals := 42 }
set_option maxHeartbeats 4000000 in
set_option maxRecDepth 100000 in
theorem c_X2_add (l : Launch) (D : va_G) (cs az a : Nat → Nat) {ix : Nat} (hix : ix < 4) (x1 : Int32) (x2 : Int32) (x3 : Int32) (g : St) (post : St → Prop) (hv : V_X2_add ix x1 x2 x3 g post) : uMv l yX2_add wsX2_add rm_X2_add D cs az (gW cs a) [.ref (a (28 + 2 * ix)), .int x1, .int x2, .int x3] g post := by
  refine u_ofV (cc := cX2_add) (maxL := 5) (by decide) rfl (Nat.le_of_ble_eq_true rfl) ?_
  intro p e s m args below meth c F ls hC hr hk hl hE
  have hx := hC.1.1; have hb := hC.1.2.1; have hml := hC.1.2.2.1; have hts := hC.1.2.2.2.2
  have hown : s.vm.findClass RX2 = some m.cls := hC.1.2.2.2.1
  have hl : lv_has ls 5 [(0, .ref (a (28 + 2 * ix))), (1, .int x1), (2, .int x2), (3, .int x3)] := hl
  unfold V_X2_add at hv
  have j_60 : ∀ (v1 : Int32) (v2 : Int32) (v3 : Int32) (v4 : Int32) (g : St), J_X2_add_60 ix x1 x2 x3 post v1 v2 v3 v4 g → ∀ (H : Heap) (locs : List Loc) (ls : Array Slot), uE D 52 gA (gO cs a) cs a F s g H locs → lv_has ls 5 [(0, .ref (a (28 + 2 * ix))), (1, .int v1), (2, .int v2), (3, .int v3), (4, .int v4)] → W p l e rm_X2_add s m args below meth c H locs 0 0 (MQ below (va_Qv post (uB D (uW 52 gA (gO cs a) cs a)) F) args s 0 0 F) (F0 m 60 ls []) := by
    intro  v1 v2 v3 v4 g  hv
    intro H locs ls hE hl
    unfold J_X2_add_60 at hv
    refine lv_aload_n hx hb dX2_add_60 rfl (lv_at hl 0 rfl) ?_
    refine G_get (v := .ref (a (29 + 2 * ix))) hC hE (fun _ h => List.mem_cons_of_mem _ (List.mem_append_left _ (List.mem_append_right _ h))) (f_index hix) rfl 0 (by decide) (hts (.fieldLink RX2 9 "SeedBattle$Index" "numbers" "[I") (List.mem_of_getElem? (i := 2) rfl)) rfl dX2_add_61 ?_
    refine lv_iload hx hb dX2_add_64 (lv_at hl 4 rfl) ?_
    refine lv_iload_n hx hb dX2_add_66 rfl (lv_at hl 1 rfl) ?_
    refine lv_iload_n hx hb dX2_add_67 rfl (lv_at hl 2 rfl) ?_
    refine lv_iload_n hx hb dX2_add_68 rfl (lv_at hl 3 rfl) ?_
    refine G_callNs hC.1 hC.2.2.2.2.1 (c_X6_numberFor l v1 v2 v3 _ hv) ⟨va_cnB 3 hts gX2_add_X6_numberFor_n23 rfl rfl rfl (hC.2.2.2.2.1 _ (List.mem_of_getElem? (i := 21) rfl)) (hts _ (List.mem_of_getElem? (i := 8) rfl)) (by decide +kernel) ⟨Nat.le_of_ble_eq_true rfl, Nat.le_of_ble_eq_true rfl⟩, hts _ (List.mem_of_getElem? (i := 13) rfl), trivial⟩ rfl hl rfl (Nat.le_of_ble_eq_true rfl) dX2_add_69 (Nat.zero_le _) (Nat.zero_le _) (fun r2 hv => ?_)
    refine G_iast hC hE (f_numbers hix) hv.1 dX2_add_72 (fun H locs hE => ?_)
    have hv := hv.2
    refine lv_aload_n hx hb dX2_add_73 rfl (lv_at hl 0 rfl) ?_
    refine lv_dup hx hb dX2_add_74 rfl ?_
    refine G_get (v := .int ((sA g (29 + 2 * ix) (upd (g.1 (29 + 2 * ix)) (Int32.toNatClampNeg v4) r2)).2 (10 + ix))) hC hE (fun _ h => List.mem_cons_of_mem _ (List.mem_append_left _ (List.mem_append_right _ h))) (f_index hix) rfl 1 (by decide) (hts (.fieldLink RX2 15 "SeedBattle$Index" "count" "I") (List.mem_of_getElem? (i := 1) rfl)) rfl dX2_add_75 ?_
    refine lv_iconst (v := 1) hx hb dX2_add_78 (by decide) ?_
    refine lv_iadd hx hb dX2_add_79 ?_
    refine G_put (v := (((sA g (29 + 2 * ix) (upd (g.1 (29 + 2 * ix)) (Int32.toNatClampNeg v4) r2)).2 (10 + ix)) + 1)) (ty := .int) hC hE (fun _ h => List.mem_cons_of_mem _ (List.mem_append_left _ (List.mem_append_right _ h))) tyX2 tyX2_ok nmX2 (f_index hix) rfl 1 (10 + ix) (by decide) (hts (.fieldLink RX2 15 "SeedBattle$Index" "count" "I") (List.mem_of_getElem? (i := 1) rfl)) rfl (by decide +kernel) rfl rfl (Nat.le_of_ble_eq_true rfl) (p_index_count_e (p := ix)) (p_index_count_o (p := ix) hix) dX2_add_80 (fun H locs hE => ?_)
    refine lv_aload_n hx hb dX2_add_83 rfl (lv_at hl 0 rfl) ?_
    refine G_get (v := .int ((sS (sA g (29 + 2 * ix) (upd (g.1 (29 + 2 * ix)) (Int32.toNatClampNeg v4) r2)) (10 + ix) (((sA g (29 + 2 * ix) (upd (g.1 (29 + 2 * ix)) (Int32.toNatClampNeg v4) r2)).2 (10 + ix)) + 1)).2 (10 + ix))) hC hE (fun _ h => List.mem_cons_of_mem _ (List.mem_append_left _ (List.mem_append_right _ h))) (f_index hix) rfl 1 (by decide) (hts (.fieldLink RX2 15 "SeedBattle$Index" "count" "I") (List.mem_of_getElem? (i := 1) rfl)) rfl dX2_add_84 ?_
    refine lv_bipush (v := 60) hx hb dX2_add_87 (by decide) ?_
    refine lv_icmp_le (tgt := 96) hx hb dX2_add_89 (by decide) (fun c => ?_) (fun c => ?_)
    · have hv := hv.1 c
      exact G_vret hC hr hk hE hv dX2_add_96
    · have hv := hv.2 c
      refine lv_aload_n hx hb dX2_add_92 rfl (lv_at hl 0 rfl) ?_
      refine G_callVv hC (c_X2_dropFirst l D cs az a (ix := ix) hix  (sS (sA g (29 + 2 * ix) (upd (g.1 (29 + 2 * ix)) (Int32.toNatClampNeg v4) r2)) (10 + ix) (((sA g (29 + 2 * ix) (upd (g.1 (29 + 2 * ix)) (Int32.toNatClampNeg v4) r2)).2 (10 + ix)) + 1)) _ hv) (cwV 0 hts gX2_add_X2_dropFirst rfl rfl rfl (by decide +kernel) ⟨Nat.le_of_ble_eq_true rfl, Nat.le_of_ble_eq_true rfl⟩) (f_index hix) rfl rfl hl rfl (Nat.le_of_ble_eq_true rfl) dX2_add_93 hE (fun g3 H locs hv hE => ?_)
      exact G_vret hC hr hk hE hv dX2_add_96
  have j_16 : ∀ (v1 : Int32) (v2 : Int32) (v3 : Int32) (v4 : Int32) (g : St), lpP (fun K16 (z : Int32 × Int32 × Int32 × Int32 × St) => J_X2_add_16 ix x1 x2 x3 post K16 z.1 z.2.1 z.2.2.1 z.2.2.2.1 z.2.2.2.2) (v1, v2, v3, v4, g) → ∀ (H : Heap) (locs : List Loc) (ls : Array Slot), uE D 52 gA (gO cs a) cs a F s g H locs → lv_has ls 5 [(0, .ref (a (28 + 2 * ix))), (1, .int v1), (2, .int v2), (3, .int v3), (4, .int v4)] → W p l e rm_X2_add s m args below meth c H locs 0 0 (MQ below (va_Qv post (uB D (uW 52 gA (gO cs a) cs a)) F) args s 0 0 F) (F0 m 16 ls []) := by
    intro  v1 v2 v3 v4 g  hv
    obtain ⟨nn, hv⟩ := hv
    induction nn generalizing v1 v2 v3 v4 g with
    | zero => exact False.elim hv
    | succ nn hK16 =>
      intro H locs ls hE hl
      have hv : J_X2_add_16 ix x1 x2 x3 post (itP _ nn) v1 v2 v3 v4 g := hv
      unfold J_X2_add_16 at hv
      refine lv_iload hx hb dX2_add_16 (lv_at hl 4 rfl) ?_
      refine lv_if_le (tgt := 60) hx hb dX2_add_18 (by decide) (fun c => ?_) (fun c => ?_)
      · have hv := hv.1 c
        exact j_60  _ _ _ _ _  hv _ _ _ hE (lv_sub hl [0, 1, 2, 3, 4] rfl)
      · have hv := hv.2 c
        refine lv_aload_n hx hb dX2_add_21 rfl (lv_at hl 0 rfl) ?_
        refine G_get (v := .ref (a (29 + 2 * ix))) hC hE (fun _ h => List.mem_cons_of_mem _ (List.mem_append_left _ (List.mem_append_right _ h))) (f_index hix) rfl 0 (by decide) (hts (.fieldLink RX2 9 "SeedBattle$Index" "numbers" "[I") (List.mem_of_getElem? (i := 2) rfl)) rfl dX2_add_22 ?_
        refine lv_iload hx hb dX2_add_25 (lv_at hl 4 rfl) ?_
        refine lv_iconst (v := 1) hx hb dX2_add_27 (by decide) ?_
        refine lv_isub hx hb dX2_add_28 ?_
        refine G_iald hC hE (f_numbers hix) hv.1 dX2_add_29 ?_
        have hv := hv.2
        refine lv_iload_n hx hb dX2_add_30 rfl (lv_at hl 1 rfl) ?_
        refine lv_iload_n hx hb dX2_add_31 rfl (lv_at hl 3 rfl) ?_
        refine G_callSs hC.1 hC.2.2.2.2.1 (c_X2_isBehind l (g.1 (29 + 2 * ix) (Int32.toNatClampNeg (v4 - 1))) v1 v3 _ hv) (va_cwS 3 hts gX2_add_X2_isBehind rfl rfl rfl (by decide +kernel) ⟨Nat.le_of_ble_eq_true rfl, Nat.le_of_ble_eq_true rfl⟩) rfl hl rfl (Nat.le_of_ble_eq_true rfl) dX2_add_32 (Nat.zero_le _) (Nat.zero_le _) (fun r1 hv => ?_)
        refine lv_if_eq (tgt := 60) hx hb dX2_add_35 (by decide) (fun c => ?_) (fun c => ?_)
        · have hv := hv.1 c
          exact j_60  _ _ _ _ _  hv _ _ _ hE (lv_sub hl [0, 1, 2, 3, 4] rfl)
        · have hv := hv.2 c
          refine lv_aload_n hx hb dX2_add_38 rfl (lv_at hl 0 rfl) ?_
          refine G_get (v := .ref (a (29 + 2 * ix))) hC hE (fun _ h => List.mem_cons_of_mem _ (List.mem_append_left _ (List.mem_append_right _ h))) (f_index hix) rfl 0 (by decide) (hts (.fieldLink RX2 9 "SeedBattle$Index" "numbers" "[I") (List.mem_of_getElem? (i := 2) rfl)) rfl dX2_add_39 ?_
          refine lv_iload hx hb dX2_add_42 (lv_at hl 4 rfl) ?_
          refine lv_aload_n hx hb dX2_add_44 rfl (lv_at hl 0 rfl) ?_
          refine G_get (v := .ref (a (29 + 2 * ix))) hC hE (fun _ h => List.mem_cons_of_mem _ (List.mem_append_left _ (List.mem_append_right _ h))) (f_index hix) rfl 0 (by decide) (hts (.fieldLink RX2 9 "SeedBattle$Index" "numbers" "[I") (List.mem_of_getElem? (i := 2) rfl)) rfl dX2_add_45 ?_
          refine lv_iload hx hb dX2_add_48 (lv_at hl 4 rfl) ?_
          refine lv_iconst (v := 1) hx hb dX2_add_50 (by decide) ?_
          refine lv_isub hx hb dX2_add_51 ?_
          refine G_iald hC hE (f_numbers hix) hv.1 dX2_add_52 ?_
          have hv := hv.2
          refine G_iast hC hE (f_numbers hix) hv.1 dX2_add_53 (fun H locs hE => ?_)
          have hv := hv.2
          refine lv_iinc (v := (v4 + (-1))) (lv' := [(4, .int (v4 + (-1))), (0, .ref (a (28 + 2 * ix))), (1, .int v1), (2, .int v2), (3, .int v3)]) hx hb dX2_add_54 hl (k := 4) rfl rfl (by decide) rfl (fun ls hl => ?_)
          refine lv_goto (tgt := 16) hx hb dX2_add_57 (by decide) ?_
          exact hK16 _ _ _ _ _  hv _ _ _ hE (lv_sub hl [1, 2, 3, 4, 0] rfl)
  refine lv_aload_n hx hb dX2_add_0 rfl (lv_at hl 0 rfl) ?_
  refine G_get (v := .int (g.2 (10 + ix))) hC hE (fun _ h => List.mem_cons_of_mem _ (List.mem_append_left _ (List.mem_append_right _ h))) (f_index hix) rfl 1 (by decide) (hts (.fieldLink RX2 15 "SeedBattle$Index" "count" "I") (List.mem_of_getElem? (i := 1) rfl)) rfl dX2_add_1 ?_
  refine lv_bipush (v := 60) hx hb dX2_add_4 (by decide) ?_
  refine lv_icmp_le (tgt := 10) hx hb dX2_add_6 (by decide) (fun c => ?_) (fun c => ?_)
  · have hv := hv.1 c
    refine lv_aload_n hx hb dX2_add_10 rfl (lv_at hl 0 rfl) ?_
    refine G_get (v := .int (g.2 (10 + ix))) hC hE (fun _ h => List.mem_cons_of_mem _ (List.mem_append_left _ (List.mem_append_right _ h))) (f_index hix) rfl 1 (by decide) (hts (.fieldLink RX2 15 "SeedBattle$Index" "count" "I") (List.mem_of_getElem? (i := 1) rfl)) rfl dX2_add_11 ?_
    refine lv_istore (lv' := [(4, .int (g.2 (10 + ix))), (0, .ref (a (28 + 2 * ix))), (1, .int x1), (2, .int x2), (3, .int x3)]) hx hb dX2_add_14 hl (by decide) rfl (fun ls hl => ?_)
    exact j_16  _ _ _ _ _  hv _ _ _ hE (lv_sub hl [1, 2, 3, 4, 0] rfl)
  · have hv := hv.2 c
    exact G_vret hC hr hk hE hv dX2_add_9
