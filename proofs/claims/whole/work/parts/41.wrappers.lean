def V_L_setSeed (x1 : Int32) (g : St) (f : Nat → Int64) (post : Int32 → St × (Nat → Int64) → Prop) : Prop := V_X6_setSeed x1 g (fun r g1 => post 0 (g1, vp_updL f 0 (Int32.toInt64 r))) (fun E g1 => (E = "java/lang/IllegalStateException" ∧ post 1 (g1, f)))
abbrev rm_L_setSeed : Room := { frames := 7, cells := 4, slots := 24, locals := 130 }
set_option maxHeartbeats 4000000 in
set_option maxRecDepth 100000 in
theorem c_L_setSeed (l : Launch) (hfl : l.flags = flags0) (D : va_G) (cs az a : Nat → Nat) (ao : Nat) (x1 : Int32) (g : St) (f : Nat → Int64) (post : Int32 → St × (Nat → Int64) → Prop) (hv : V_L_setSeed x1 g f post) : uLi l yL_setSeed wsL_setSeed rm_L_setSeed D cs az (wL cs a ao) [.ref (a 0), .int x1, .ref ao] (g, f) post := by
  refine u_ofL9 (cc := cL_setSeed) (maxL := 4) (by decide) rfl (Nat.le_of_ble_eq_true rfl) ?_
  intro p e s m args below meth c F ls hC htab hr hk hl hP hD hS
  have hx := hC.1.1; have hb := hC.1.2.1; have hml := hC.1.2.2.1; have hts := hC.1.2.2.2.2
  have hown : s.vm.findClass RL = some m.cls := hC.1.2.2.2.1
  have hl : lv_has ls 4 [(0, .ref (a 0)), (1, .int x1), (2, .ref ao)] := hl
  have hP : va_P D vwCl (gW cs a g ++ wOut cs ao f) s.heap := hP; have hD : va_D F (gW cs a g ++ wOut cs ao f) := hD
  unfold V_L_setSeed at hv
  refine lv_aload_n hx hb dL_setSeed_0 rfl (lv_at hl 2 rfl) ?_
  refine lv_iconst (v := 0) hx hb dL_setSeed_1 (by decide) ?_
  refine lv_aload_n hx hb dL_setSeed_2 rfl (lv_at hl 0 rfl) ?_
  refine lv_iload_n hx hb dL_setSeed_3 rfl (lv_at hl 1 rfl) ?_
  refine L_callTi hC (c_X6_setSeed l hfl D cs az a x1 g _ _ hv) (cwV 1 hts gL_setSeed_X6_setSeed rfl rfl rfl (by decide +kernel) ⟨Nat.le_of_ble_eq_true rfl, Nat.le_of_ble_eq_true rfl⟩) rfl hl rfl (Nat.le_of_ble_eq_true rfl) dL_setSeed_4 hP hD hS (Nat.le_of_ble_eq_true rfl) (Nat.le_of_ble_eq_true rfl) (fun E ce q9 g1 H locs hv hP hD hS e1 e2 e3 => ?_) (fun r g1 H locs hv hP hD hS => ?_)
  · obtain ⟨hEq, hv⟩ := hv
    subst hEq
    refine vx_catch (name := "java/lang/IllegalStateException") hown (tableOf []) ⟨0, 9, 12, 13⟩ (tableOf []) (htab.trans rfl) (fun _ h => absurd h List.not_mem_nil) (by decide) (by decide) (hts (.classLink RL 13 "java/lang/IllegalStateException") (List.mem_of_getElem? (i := 1) rfl)) (va_Nw.use rfl (hC.2.2.2.2.2.2.2.2.2.1 (.castable "java/lang/IllegalStateException" "java/lang/IllegalStateException") (List.mem_of_getElem? (i := 3) rfl))) e1 e2 e3 ?_
    refine lv_astore_n (lv' := [(3, .ref q9), (0, .ref (a 0)), (1, .int x1), (2, .ref ao)]) hx hb dL_setSeed_12 rfl hl (by decide) rfl (fun ls hl => ?_)
    refine lv_iconst (v := 1) hx hb dL_setSeed_13 (by decide) ?_
    exact L_iret (z := (g1, f)) hC hr hk hP hS hv dL_setSeed_14 (Nat.le_of_ble_eq_true rfl) (Nat.le_of_ble_eq_true rfl)
  · refine lv_i2l (v := r.toInt64) hx hb dL_setSeed_7 rfl ?_
    refine L_last hC hP hD hS dL_setSeed_8 (fun H locs hP hD hS => ?_)
    refine lv_goto (tgt := 15) hx hb dL_setSeed_9 (by decide) ?_
    refine lv_iconst (v := 0) hx hb dL_setSeed_15 (by decide) ?_
    exact L_iret (z := (g1, vp_updL f 0 r.toInt64)) hC hr hk hP hS hv dL_setSeed_16 (Nat.le_of_ble_eq_true rfl) (Nat.le_of_ble_eq_true rfl)
def V_L_ground (x1 : Int32) (g : St) (f : Nat → Int64) (post : Int32 → St × (Nat → Int64) → Prop) : Prop := V_X6_ground x1 g (fun r g1 => post 0 (g1, vp_updL f 0 (Int32.toInt64 r))) (fun E g1 => (E = "java/lang/IndexOutOfBoundsException" ∧ post 1 (g1, f)))
abbrev rm_L_ground : Room := { frames := 8, cells := 4, slots := 24, locals := 131 }
set_option maxHeartbeats 4000000 in
set_option maxRecDepth 100000 in
theorem c_L_ground (l : Launch) (hfl : l.flags = flags0) (D : va_G) (cs az a : Nat → Nat) (ao : Nat) (x1 : Int32) (g : St) (f : Nat → Int64) (post : Int32 → St × (Nat → Int64) → Prop) (hv : V_L_ground x1 g f post) : uLi l yL_ground wsL_ground rm_L_ground D cs az (wL cs a ao) [.ref (a 0), .int x1, .ref ao] (g, f) post := by
  refine u_ofL9 (cc := cL_ground) (maxL := 4) (by decide) rfl (Nat.le_of_ble_eq_true rfl) ?_
  intro p e s m args below meth c F ls hC htab hr hk hl hP hD hS
  have hx := hC.1.1; have hb := hC.1.2.1; have hml := hC.1.2.2.1; have hts := hC.1.2.2.2.2
  have hown : s.vm.findClass RL = some m.cls := hC.1.2.2.2.1
  have hl : lv_has ls 4 [(0, .ref (a 0)), (1, .int x1), (2, .ref ao)] := hl
  have hP : va_P D vwCl (gW cs a g ++ wOut cs ao f) s.heap := hP; have hD : va_D F (gW cs a g ++ wOut cs ao f) := hD
  unfold V_L_ground at hv
  refine lv_aload_n hx hb dL_ground_0 rfl (lv_at hl 2 rfl) ?_
  refine lv_iconst (v := 0) hx hb dL_ground_1 (by decide) ?_
  refine lv_aload_n hx hb dL_ground_2 rfl (lv_at hl 0 rfl) ?_
  refine lv_iload_n hx hb dL_ground_3 rfl (lv_at hl 1 rfl) ?_
  refine L_callTi hC (c_X6_ground l hfl D cs az a x1 g _ _ hv) (cwV 1 hts gL_ground_X6_ground rfl rfl rfl (by decide +kernel) ⟨Nat.le_of_ble_eq_true rfl, Nat.le_of_ble_eq_true rfl⟩) rfl hl rfl (Nat.le_of_ble_eq_true rfl) dL_ground_4 hP hD hS (Nat.le_of_ble_eq_true rfl) (Nat.le_of_ble_eq_true rfl) (fun E ce q9 g1 H locs hv hP hD hS e1 e2 e3 => ?_) (fun r g1 H locs hv hP hD hS => ?_)
  · obtain ⟨hEq, hv⟩ := hv
    subst hEq
    refine vx_catch (name := "java/lang/IndexOutOfBoundsException") hown (tableOf []) ⟨0, 9, 12, 19⟩ (tableOf []) (htab.trans rfl) (fun _ h => absurd h List.not_mem_nil) (by decide) (by decide) (hts (.classLink RL 19 "java/lang/IndexOutOfBoundsException") (List.mem_of_getElem? (i := 1) rfl)) (va_Nw.use rfl (hC.2.2.2.2.2.2.2.2.2.1 (.castable "java/lang/IndexOutOfBoundsException" "java/lang/IndexOutOfBoundsException") (List.mem_of_getElem? (i := 5) rfl))) e1 e2 e3 ?_
    refine lv_astore_n (lv' := [(3, .ref q9), (0, .ref (a 0)), (1, .int x1), (2, .ref ao)]) hx hb dL_ground_12 rfl hl (by decide) rfl (fun ls hl => ?_)
    refine lv_iconst (v := 1) hx hb dL_ground_13 (by decide) ?_
    exact L_iret (z := (g1, f)) hC hr hk hP hS hv dL_ground_14 (Nat.le_of_ble_eq_true rfl) (Nat.le_of_ble_eq_true rfl)
  · refine lv_i2l (v := r.toInt64) hx hb dL_ground_7 rfl ?_
    refine L_last hC hP hD hS dL_ground_8 (fun H locs hP hD hS => ?_)
    refine lv_goto (tgt := 15) hx hb dL_ground_9 (by decide) ?_
    refine lv_iconst (v := 0) hx hb dL_ground_15 (by decide) ?_
    exact L_iret (z := (g1, vp_updL f 0 r.toInt64)) hC hr hk hP hS hv dL_ground_16 (Nat.le_of_ble_eq_true rfl) (Nat.le_of_ble_eq_true rfl)
def V_L_addUnit (x1 : Int32) (x2 : Int32) (x3 : Int32) (g : St) (f : Nat → Int64) (post : Int32 → St × (Nat → Int64) → Prop) : Prop := V_X6_addUnit x1 x2 x3 g (fun r g1 => post 0 (g1, vp_updL f 0 (Int32.toInt64 r))) (fun E g1 => (E = "java/lang/IndexOutOfBoundsException" ∧ post 1 (g1, f)) ∨ (E = "java/lang/IllegalArgumentException" ∧ post 2 (g1, f)) ∨ (E = "java/lang/UnsupportedOperationException" ∧ post 3 (g1, f)) ∨ (E = "java/lang/IllegalStateException" ∧ post 4 (g1, f)))
abbrev rm_L_addUnit : Room := { frames := 8, cells := 4, slots := 24, locals := 134 }
set_option maxHeartbeats 4000000 in
set_option maxRecDepth 100000 in
theorem c_L_addUnit (l : Launch) (hfl : l.flags = flags0) (D : va_G) (cs az a : Nat → Nat) (ao : Nat) (x1 : Int32) (x2 : Int32) (x3 : Int32) (g : St) (f : Nat → Int64) (post : Int32 → St × (Nat → Int64) → Prop) (hv : V_L_addUnit x1 x2 x3 g f post) : uLi l yL_addUnit wsL_addUnit rm_L_addUnit D cs az (wL cs a ao) [.ref (a 0), .int x1, .int x2, .int x3, .ref ao] (g, f) post := by
  refine u_ofL9 (cc := cL_addUnit) (maxL := 6) (by decide) rfl (Nat.le_of_ble_eq_true rfl) ?_
  intro p e s m args below meth c F ls hC htab hr hk hl hP hD hS
  have hx := hC.1.1; have hb := hC.1.2.1; have hml := hC.1.2.2.1; have hts := hC.1.2.2.2.2
  have hown : s.vm.findClass RL = some m.cls := hC.1.2.2.2.1
  have hl : lv_has ls 6 [(0, .ref (a 0)), (1, .int x1), (2, .int x2), (3, .int x3), (4, .ref ao)] := hl
  have hP : va_P D vwCl (gW cs a g ++ wOut cs ao f) s.heap := hP; have hD : va_D F (gW cs a g ++ wOut cs ao f) := hD
  unfold V_L_addUnit at hv
  refine lv_aload hx hb dL_addUnit_0 (lv_at hl 4 rfl) ?_
  refine lv_iconst (v := 0) hx hb dL_addUnit_2 (by decide) ?_
  refine lv_aload_n hx hb dL_addUnit_3 rfl (lv_at hl 0 rfl) ?_
  refine lv_iload_n hx hb dL_addUnit_4 rfl (lv_at hl 1 rfl) ?_
  refine lv_iload_n hx hb dL_addUnit_5 rfl (lv_at hl 2 rfl) ?_
  refine lv_iload_n hx hb dL_addUnit_6 rfl (lv_at hl 3 rfl) ?_
  refine L_callTi hC (c_X6_addUnit l hfl D cs az a x1 x2 x3 g _ _ hv) (cwV 3 hts gL_addUnit_X6_addUnit rfl rfl rfl (by decide +kernel) ⟨Nat.le_of_ble_eq_true rfl, Nat.le_of_ble_eq_true rfl⟩) rfl hl rfl (Nat.le_of_ble_eq_true rfl) dL_addUnit_7 hP hD hS (Nat.le_of_ble_eq_true rfl) (Nat.le_of_ble_eq_true rfl) (fun E ce q9 g1 H locs hv hP hD hS e1 e2 e3 => ?_) (fun r g1 H locs hv hP hD hS => ?_)
  · rcases hv with ⟨hEq, hv⟩ | ⟨hEq, hv⟩ | ⟨hEq, hv⟩ | ⟨hEq, hv⟩
    · subst hEq
      refine vx_catch (name := "java/lang/IndexOutOfBoundsException") hown (tableOf []) ⟨0, 12, 15, 19⟩ (tableOf [(0, 12, 19, 25), (0, 12, 23, 27), (0, 12, 27, 13)]) (htab.trans rfl) (fun _ h => absurd h List.not_mem_nil) (by decide) (by decide) (hts (.classLink RL 19 "java/lang/IndexOutOfBoundsException") (List.mem_of_getElem? (i := 1) rfl)) (va_Nw.use rfl (hC.2.2.2.2.2.2.2.2.2.1 (.castable "java/lang/IndexOutOfBoundsException" "java/lang/IndexOutOfBoundsException") (List.mem_of_getElem? (i := 5) rfl))) e1 e2 e3 ?_
      refine lv_astore (lv' := [(5, .ref q9), (0, .ref (a 0)), (1, .int x1), (2, .int x2), (3, .int x3), (4, .ref ao)]) hx hb dL_addUnit_15 hl (by decide) rfl (fun ls hl => ?_)
      refine lv_iconst (v := 1) hx hb dL_addUnit_17 (by decide) ?_
      exact L_iret (z := (g1, f)) hC hr hk hP hS hv dL_addUnit_18 (Nat.le_of_ble_eq_true rfl) (Nat.le_of_ble_eq_true rfl)
    · subst hEq
      refine vx_catch (name := "java/lang/IllegalArgumentException") hown (tableOf [(0, 12, 15, 19)]) ⟨0, 12, 19, 25⟩ (tableOf [(0, 12, 23, 27), (0, 12, 27, 13)]) (htab.trans rfl) (List.forall_mem_cons.mpr ⟨Or.inr ⟨by decide, "java/lang/IndexOutOfBoundsException", hts (.classLink RL 19 "java/lang/IndexOutOfBoundsException") (List.mem_of_getElem? (i := 1) rfl), hC.2.2.2.2.2.2.2.2.2.2 _ (List.mem_of_getElem? (i := 6) rfl)⟩, (fun _ h => absurd h List.not_mem_nil)⟩) (by decide) (by decide) (hts (.classLink RL 25 "java/lang/IllegalArgumentException") (List.mem_of_getElem? (i := 2) rfl)) (va_Nw.use rfl (hC.2.2.2.2.2.2.2.2.2.1 (.castable "java/lang/IllegalArgumentException" "java/lang/IllegalArgumentException") (List.mem_of_getElem? (i := 4) rfl))) e1 e2 e3 ?_
      refine lv_astore (lv' := [(5, .ref q9), (0, .ref (a 0)), (1, .int x1), (2, .int x2), (3, .int x3), (4, .ref ao)]) hx hb dL_addUnit_19 hl (by decide) rfl (fun ls hl => ?_)
      refine lv_iconst (v := 2) hx hb dL_addUnit_21 (by decide) ?_
      exact L_iret (z := (g1, f)) hC hr hk hP hS hv dL_addUnit_22 (Nat.le_of_ble_eq_true rfl) (Nat.le_of_ble_eq_true rfl)
    · subst hEq
      refine vx_catch (name := "java/lang/UnsupportedOperationException") hown (tableOf [(0, 12, 15, 19), (0, 12, 19, 25)]) ⟨0, 12, 23, 27⟩ (tableOf [(0, 12, 27, 13)]) (htab.trans rfl) (List.forall_mem_cons.mpr ⟨Or.inr ⟨by decide, "java/lang/IndexOutOfBoundsException", hts (.classLink RL 19 "java/lang/IndexOutOfBoundsException") (List.mem_of_getElem? (i := 1) rfl), hC.2.2.2.2.2.2.2.2.2.2 _ (List.mem_of_getElem? (i := 22) rfl)⟩, (List.forall_mem_cons.mpr ⟨Or.inr ⟨by decide, "java/lang/IllegalArgumentException", hts (.classLink RL 25 "java/lang/IllegalArgumentException") (List.mem_of_getElem? (i := 2) rfl), hC.2.2.2.2.2.2.2.2.2.2 _ (List.mem_of_getElem? (i := 21) rfl)⟩, (fun _ h => absurd h List.not_mem_nil)⟩)⟩) (by decide) (by decide) (hts (.classLink RL 27 "java/lang/UnsupportedOperationException") (List.mem_of_getElem? (i := 3) rfl)) (va_Nw.use rfl (hC.2.2.2.2.2.2.2.2.2.1 (.castable "java/lang/UnsupportedOperationException" "java/lang/UnsupportedOperationException") (List.mem_of_getElem? (i := 7) rfl))) e1 e2 e3 ?_
      refine lv_astore (lv' := [(5, .ref q9), (0, .ref (a 0)), (1, .int x1), (2, .int x2), (3, .int x3), (4, .ref ao)]) hx hb dL_addUnit_23 hl (by decide) rfl (fun ls hl => ?_)
      refine lv_iconst (v := 3) hx hb dL_addUnit_25 (by decide) ?_
      exact L_iret (z := (g1, f)) hC hr hk hP hS hv dL_addUnit_26 (Nat.le_of_ble_eq_true rfl) (Nat.le_of_ble_eq_true rfl)
    · subst hEq
      refine vx_catch (name := "java/lang/IllegalStateException") hown (tableOf [(0, 12, 15, 19), (0, 12, 19, 25), (0, 12, 23, 27)]) ⟨0, 12, 27, 13⟩ (tableOf []) (htab.trans rfl) (List.forall_mem_cons.mpr ⟨Or.inr ⟨by decide, "java/lang/IndexOutOfBoundsException", hts (.classLink RL 19 "java/lang/IndexOutOfBoundsException") (List.mem_of_getElem? (i := 1) rfl), hC.2.2.2.2.2.2.2.2.2.2 _ (List.mem_of_getElem? (i := 1) rfl)⟩, (List.forall_mem_cons.mpr ⟨Or.inr ⟨by decide, "java/lang/IllegalArgumentException", hts (.classLink RL 25 "java/lang/IllegalArgumentException") (List.mem_of_getElem? (i := 2) rfl), hC.2.2.2.2.2.2.2.2.2.2 _ (List.mem_of_getElem? (i := 0) rfl)⟩, (List.forall_mem_cons.mpr ⟨Or.inr ⟨by decide, "java/lang/UnsupportedOperationException", hts (.classLink RL 27 "java/lang/UnsupportedOperationException") (List.mem_of_getElem? (i := 3) rfl), hC.2.2.2.2.2.2.2.2.2.2 _ (List.mem_of_getElem? (i := 3) rfl)⟩, (fun _ h => absurd h List.not_mem_nil)⟩)⟩)⟩) (by decide) (by decide) (hts (.classLink RL 13 "java/lang/IllegalStateException") (List.mem_of_getElem? (i := 4) rfl)) (va_Nw.use rfl (hC.2.2.2.2.2.2.2.2.2.1 (.castable "java/lang/IllegalStateException" "java/lang/IllegalStateException") (List.mem_of_getElem? (i := 3) rfl))) e1 e2 e3 ?_
      refine lv_astore (lv' := [(5, .ref q9), (0, .ref (a 0)), (1, .int x1), (2, .int x2), (3, .int x3), (4, .ref ao)]) hx hb dL_addUnit_27 hl (by decide) rfl (fun ls hl => ?_)
      refine lv_iconst (v := 4) hx hb dL_addUnit_29 (by decide) ?_
      exact L_iret (z := (g1, f)) hC hr hk hP hS hv dL_addUnit_30 (Nat.le_of_ble_eq_true rfl) (Nat.le_of_ble_eq_true rfl)
  · refine lv_i2l (v := r.toInt64) hx hb dL_addUnit_10 rfl ?_
    refine L_last hC hP hD hS dL_addUnit_11 (fun H locs hP hD hS => ?_)
    refine lv_goto (tgt := 31) hx hb dL_addUnit_12 (by decide) ?_
    refine lv_iconst (v := 0) hx hb dL_addUnit_31 (by decide) ?_
    exact L_iret (z := (g1, vp_updL f 0 r.toInt64)) hC hr hk hP hS hv dL_addUnit_32 (Nat.le_of_ble_eq_true rfl) (Nat.le_of_ble_eq_true rfl)
def V_L_order (x1 : Int32) (x2 : Int32) (g : St) (f : Nat → Int64) (post : Int32 → St × (Nat → Int64) → Prop) : Prop := V_X6_order x1 x2 g (fun r g1 => post 0 (g1, vp_updL f 0 (Int32.toInt64 r))) (fun E g1 => (E = "java/lang/IndexOutOfBoundsException" ∧ post 1 (g1, f)) ∨ (E = "java/lang/IllegalArgumentException" ∧ post 2 (g1, f)) ∨ (E = "java/lang/UnsupportedOperationException" ∧ post 3 (g1, f)))
abbrev rm_L_order : Room := { frames := 8, cells := 4, slots := 24, locals := 133 }
set_option maxHeartbeats 4000000 in
set_option maxRecDepth 100000 in
theorem c_L_order (l : Launch) (hfl : l.flags = flags0) (D : va_G) (cs az a : Nat → Nat) (ao : Nat) (x1 : Int32) (x2 : Int32) (g : St) (f : Nat → Int64) (post : Int32 → St × (Nat → Int64) → Prop) (hv : V_L_order x1 x2 g f post) : uLi l yL_order wsL_order rm_L_order D cs az (wL cs a ao) [.ref (a 0), .int x1, .int x2, .ref ao] (g, f) post := by
  refine u_ofL9 (cc := cL_order) (maxL := 5) (by decide) rfl (Nat.le_of_ble_eq_true rfl) ?_
  intro p e s m args below meth c F ls hC htab hr hk hl hP hD hS
  have hx := hC.1.1; have hb := hC.1.2.1; have hml := hC.1.2.2.1; have hts := hC.1.2.2.2.2
  have hown : s.vm.findClass RL = some m.cls := hC.1.2.2.2.1
  have hl : lv_has ls 5 [(0, .ref (a 0)), (1, .int x1), (2, .int x2), (3, .ref ao)] := hl
  have hP : va_P D vwCl (gW cs a g ++ wOut cs ao f) s.heap := hP; have hD : va_D F (gW cs a g ++ wOut cs ao f) := hD
  unfold V_L_order at hv
  refine lv_aload_n hx hb dL_order_0 rfl (lv_at hl 3 rfl) ?_
  refine lv_iconst (v := 0) hx hb dL_order_1 (by decide) ?_
  refine lv_aload_n hx hb dL_order_2 rfl (lv_at hl 0 rfl) ?_
  refine lv_iload_n hx hb dL_order_3 rfl (lv_at hl 1 rfl) ?_
  refine lv_iload_n hx hb dL_order_4 rfl (lv_at hl 2 rfl) ?_
  refine L_callTi hC (c_X6_order l hfl D cs az a x1 x2 g _ _ hv) (cwV 2 hts gL_order_X6_order rfl rfl rfl (by decide +kernel) ⟨Nat.le_of_ble_eq_true rfl, Nat.le_of_ble_eq_true rfl⟩) rfl hl rfl (Nat.le_of_ble_eq_true rfl) dL_order_5 hP hD hS (Nat.le_of_ble_eq_true rfl) (Nat.le_of_ble_eq_true rfl) (fun E ce q9 g1 H locs hv hP hD hS e1 e2 e3 => ?_) (fun r g1 H locs hv hP hD hS => ?_)
  · rcases hv with ⟨hEq, hv⟩ | ⟨hEq, hv⟩ | ⟨hEq, hv⟩
    · subst hEq
      refine vx_catch (name := "java/lang/IndexOutOfBoundsException") hown (tableOf []) ⟨0, 10, 13, 19⟩ (tableOf [(0, 10, 17, 25), (0, 10, 21, 27)]) (htab.trans rfl) (fun _ h => absurd h List.not_mem_nil) (by decide) (by decide) (hts (.classLink RL 19 "java/lang/IndexOutOfBoundsException") (List.mem_of_getElem? (i := 1) rfl)) (va_Nw.use rfl (hC.2.2.2.2.2.2.2.2.2.1 (.castable "java/lang/IndexOutOfBoundsException" "java/lang/IndexOutOfBoundsException") (List.mem_of_getElem? (i := 5) rfl))) e1 e2 e3 ?_
      refine lv_astore (lv' := [(4, .ref q9), (0, .ref (a 0)), (1, .int x1), (2, .int x2), (3, .ref ao)]) hx hb dL_order_13 hl (by decide) rfl (fun ls hl => ?_)
      refine lv_iconst (v := 1) hx hb dL_order_15 (by decide) ?_
      exact L_iret (z := (g1, f)) hC hr hk hP hS hv dL_order_16 (Nat.le_of_ble_eq_true rfl) (Nat.le_of_ble_eq_true rfl)
    · subst hEq
      refine vx_catch (name := "java/lang/IllegalArgumentException") hown (tableOf [(0, 10, 13, 19)]) ⟨0, 10, 17, 25⟩ (tableOf [(0, 10, 21, 27)]) (htab.trans rfl) (List.forall_mem_cons.mpr ⟨Or.inr ⟨by decide, "java/lang/IndexOutOfBoundsException", hts (.classLink RL 19 "java/lang/IndexOutOfBoundsException") (List.mem_of_getElem? (i := 1) rfl), hC.2.2.2.2.2.2.2.2.2.2 _ (List.mem_of_getElem? (i := 6) rfl)⟩, (fun _ h => absurd h List.not_mem_nil)⟩) (by decide) (by decide) (hts (.classLink RL 25 "java/lang/IllegalArgumentException") (List.mem_of_getElem? (i := 2) rfl)) (va_Nw.use rfl (hC.2.2.2.2.2.2.2.2.2.1 (.castable "java/lang/IllegalArgumentException" "java/lang/IllegalArgumentException") (List.mem_of_getElem? (i := 4) rfl))) e1 e2 e3 ?_
      refine lv_astore (lv' := [(4, .ref q9), (0, .ref (a 0)), (1, .int x1), (2, .int x2), (3, .ref ao)]) hx hb dL_order_17 hl (by decide) rfl (fun ls hl => ?_)
      refine lv_iconst (v := 2) hx hb dL_order_19 (by decide) ?_
      exact L_iret (z := (g1, f)) hC hr hk hP hS hv dL_order_20 (Nat.le_of_ble_eq_true rfl) (Nat.le_of_ble_eq_true rfl)
    · subst hEq
      refine vx_catch (name := "java/lang/UnsupportedOperationException") hown (tableOf [(0, 10, 13, 19), (0, 10, 17, 25)]) ⟨0, 10, 21, 27⟩ (tableOf []) (htab.trans rfl) (List.forall_mem_cons.mpr ⟨Or.inr ⟨by decide, "java/lang/IndexOutOfBoundsException", hts (.classLink RL 19 "java/lang/IndexOutOfBoundsException") (List.mem_of_getElem? (i := 1) rfl), hC.2.2.2.2.2.2.2.2.2.2 _ (List.mem_of_getElem? (i := 22) rfl)⟩, (List.forall_mem_cons.mpr ⟨Or.inr ⟨by decide, "java/lang/IllegalArgumentException", hts (.classLink RL 25 "java/lang/IllegalArgumentException") (List.mem_of_getElem? (i := 2) rfl), hC.2.2.2.2.2.2.2.2.2.2 _ (List.mem_of_getElem? (i := 21) rfl)⟩, (fun _ h => absurd h List.not_mem_nil)⟩)⟩) (by decide) (by decide) (hts (.classLink RL 27 "java/lang/UnsupportedOperationException") (List.mem_of_getElem? (i := 3) rfl)) (va_Nw.use rfl (hC.2.2.2.2.2.2.2.2.2.1 (.castable "java/lang/UnsupportedOperationException" "java/lang/UnsupportedOperationException") (List.mem_of_getElem? (i := 7) rfl))) e1 e2 e3 ?_
      refine lv_astore (lv' := [(4, .ref q9), (0, .ref (a 0)), (1, .int x1), (2, .int x2), (3, .ref ao)]) hx hb dL_order_21 hl (by decide) rfl (fun ls hl => ?_)
      refine lv_iconst (v := 3) hx hb dL_order_23 (by decide) ?_
      exact L_iret (z := (g1, f)) hC hr hk hP hS hv dL_order_24 (Nat.le_of_ble_eq_true rfl) (Nat.le_of_ble_eq_true rfl)
  · refine lv_i2l (v := r.toInt64) hx hb dL_order_8 rfl ?_
    refine L_last hC hP hD hS dL_order_9 (fun H locs hP hD hS => ?_)
    refine lv_goto (tgt := 25) hx hb dL_order_10 (by decide) ?_
    refine lv_iconst (v := 0) hx hb dL_order_25 (by decide) ?_
    exact L_iret (z := (g1, vp_updL f 0 r.toInt64)) hC hr hk hP hS hv dL_order_26 (Nat.le_of_ble_eq_true rfl) (Nat.le_of_ble_eq_true rfl)
def V_L_turn  (g : St) (f : Nat → Int64) (post : Int32 → St × (Nat → Int64) → Prop) : Prop := V_X6_turn  g (fun r g1 => post 0 (g1, vp_updL f 0 (Int32.toInt64 r))) (fun E g1 => (E = "java/lang/IllegalStateException" ∧ post 1 (g1, f)))
abbrev rm_L_turn : Room := { frames := 7, cells := 4, slots := 24, locals := 168 }
set_option maxHeartbeats 4000000 in
set_option maxRecDepth 100000 in
theorem c_L_turn (l : Launch) (hfl : l.flags = flags0) (D : va_G) (cs az a : Nat → Nat) (ao : Nat)  (g : St) (f : Nat → Int64) (post : Int32 → St × (Nat → Int64) → Prop) (hv : V_L_turn  g f post) : uLi l yL_turn wsL_turn rm_L_turn D cs az (wL cs a ao) [.ref (a 0), .ref ao] (g, f) post := by
  refine u_ofL9 (cc := cL_turn) (maxL := 3) (by decide) rfl (Nat.le_of_ble_eq_true rfl) ?_
  intro p e s m args below meth c F ls hC htab hr hk hl hP hD hS
  have hx := hC.1.1; have hb := hC.1.2.1; have hml := hC.1.2.2.1; have hts := hC.1.2.2.2.2
  have hown : s.vm.findClass RL = some m.cls := hC.1.2.2.2.1
  have hl : lv_has ls 3 [(0, .ref (a 0)), (1, .ref ao)] := hl
  have hP : va_P D vwCl (gW cs a g ++ wOut cs ao f) s.heap := hP; have hD : va_D F (gW cs a g ++ wOut cs ao f) := hD
  unfold V_L_turn at hv
  refine lv_aload_n hx hb dL_turn_0 rfl (lv_at hl 1 rfl) ?_
  refine lv_iconst (v := 0) hx hb dL_turn_1 (by decide) ?_
  refine lv_aload_n hx hb dL_turn_2 rfl (lv_at hl 0 rfl) ?_
  refine L_callTi hC (c_X6_turn l hfl D cs az a  g _ _ hv) (cwV 0 hts gL_turn_X6_turn rfl rfl rfl (by decide +kernel) ⟨Nat.le_of_ble_eq_true rfl, Nat.le_of_ble_eq_true rfl⟩) rfl hl rfl (Nat.le_of_ble_eq_true rfl) dL_turn_3 hP hD hS (Nat.le_of_ble_eq_true rfl) (Nat.le_of_ble_eq_true rfl) (fun E ce q9 g1 H locs hv hP hD hS e1 e2 e3 => ?_) (fun r g1 H locs hv hP hD hS => ?_)
  · obtain ⟨hEq, hv⟩ := hv
    subst hEq
    refine vx_catch (name := "java/lang/IllegalStateException") hown (tableOf []) ⟨0, 8, 11, 13⟩ (tableOf []) (htab.trans rfl) (fun _ h => absurd h List.not_mem_nil) (by decide) (by decide) (hts (.classLink RL 13 "java/lang/IllegalStateException") (List.mem_of_getElem? (i := 1) rfl)) (va_Nw.use rfl (hC.2.2.2.2.2.2.2.2.2.1 (.castable "java/lang/IllegalStateException" "java/lang/IllegalStateException") (List.mem_of_getElem? (i := 3) rfl))) e1 e2 e3 ?_
    refine lv_astore_n (lv' := [(2, .ref q9), (0, .ref (a 0)), (1, .ref ao)]) hx hb dL_turn_11 rfl hl (by decide) rfl (fun ls hl => ?_)
    refine lv_iconst (v := 1) hx hb dL_turn_12 (by decide) ?_
    exact L_iret (z := (g1, f)) hC hr hk hP hS hv dL_turn_13 (Nat.le_of_ble_eq_true rfl) (Nat.le_of_ble_eq_true rfl)
  · refine lv_i2l (v := r.toInt64) hx hb dL_turn_6 rfl ?_
    refine L_last hC hP hD hS dL_turn_7 (fun H locs hP hD hS => ?_)
    refine lv_goto (tgt := 14) hx hb dL_turn_8 (by decide) ?_
    refine lv_iconst (v := 0) hx hb dL_turn_14 (by decide) ?_
    exact L_iret (z := (g1, vp_updL f 0 r.toInt64)) hC hr hk hP hS hv dL_turn_15 (Nat.le_of_ble_eq_true rfl) (Nat.le_of_ble_eq_true rfl)
def V_L_cellOf (x1 : Int32) (g : St) (f : Nat → Int64) (post : Int32 → St × (Nat → Int64) → Prop) : Prop := V_X6_cellOf x1 g (fun r g1 => post 0 (g1, vp_updL f 0 (Int32.toInt64 r))) (fun E g1 => (E = "java/lang/IndexOutOfBoundsException" ∧ post 1 (g1, f)))
abbrev rm_L_cellOf : Room := { frames := 8, cells := 4, slots := 24, locals := 132 }
set_option maxHeartbeats 4000000 in
set_option maxRecDepth 100000 in
theorem c_L_cellOf (l : Launch) (hfl : l.flags = flags0) (D : va_G) (cs az a : Nat → Nat) (ao : Nat) (x1 : Int32) (g : St) (f : Nat → Int64) (post : Int32 → St × (Nat → Int64) → Prop) (hv : V_L_cellOf x1 g f post) : uLi l yL_cellOf wsL_cellOf rm_L_cellOf D cs az (wL cs a ao) [.ref (a 0), .int x1, .ref ao] (g, f) post := by
  refine u_ofL9 (cc := cL_cellOf) (maxL := 4) (by decide) rfl (Nat.le_of_ble_eq_true rfl) ?_
  intro p e s m args below meth c F ls hC htab hr hk hl hP hD hS
  have hx := hC.1.1; have hb := hC.1.2.1; have hml := hC.1.2.2.1; have hts := hC.1.2.2.2.2
  have hown : s.vm.findClass RL = some m.cls := hC.1.2.2.2.1
  have hl : lv_has ls 4 [(0, .ref (a 0)), (1, .int x1), (2, .ref ao)] := hl
  have hP : va_P D vwCl (gW cs a g ++ wOut cs ao f) s.heap := hP; have hD : va_D F (gW cs a g ++ wOut cs ao f) := hD
  unfold V_L_cellOf at hv
  refine lv_aload_n hx hb dL_cellOf_0 rfl (lv_at hl 2 rfl) ?_
  refine lv_iconst (v := 0) hx hb dL_cellOf_1 (by decide) ?_
  refine lv_aload_n hx hb dL_cellOf_2 rfl (lv_at hl 0 rfl) ?_
  refine lv_iload_n hx hb dL_cellOf_3 rfl (lv_at hl 1 rfl) ?_
  refine L_callTi hC (c_X6_cellOf l hfl D cs az a x1 g _ _ hv) (cwV 1 hts gL_cellOf_X6_cellOf rfl rfl rfl (by decide +kernel) ⟨Nat.le_of_ble_eq_true rfl, Nat.le_of_ble_eq_true rfl⟩) rfl hl rfl (Nat.le_of_ble_eq_true rfl) dL_cellOf_4 hP hD hS (Nat.le_of_ble_eq_true rfl) (Nat.le_of_ble_eq_true rfl) (fun E ce q9 g1 H locs hv hP hD hS e1 e2 e3 => ?_) (fun r g1 H locs hv hP hD hS => ?_)
  · obtain ⟨hEq, hv⟩ := hv
    subst hEq
    refine vx_catch (name := "java/lang/IndexOutOfBoundsException") hown (tableOf []) ⟨0, 9, 12, 19⟩ (tableOf []) (htab.trans rfl) (fun _ h => absurd h List.not_mem_nil) (by decide) (by decide) (hts (.classLink RL 19 "java/lang/IndexOutOfBoundsException") (List.mem_of_getElem? (i := 1) rfl)) (va_Nw.use rfl (hC.2.2.2.2.2.2.2.2.2.1 (.castable "java/lang/IndexOutOfBoundsException" "java/lang/IndexOutOfBoundsException") (List.mem_of_getElem? (i := 5) rfl))) e1 e2 e3 ?_
    refine lv_astore_n (lv' := [(3, .ref q9), (0, .ref (a 0)), (1, .int x1), (2, .ref ao)]) hx hb dL_cellOf_12 rfl hl (by decide) rfl (fun ls hl => ?_)
    refine lv_iconst (v := 1) hx hb dL_cellOf_13 (by decide) ?_
    exact L_iret (z := (g1, f)) hC hr hk hP hS hv dL_cellOf_14 (Nat.le_of_ble_eq_true rfl) (Nat.le_of_ble_eq_true rfl)
  · refine lv_i2l (v := r.toInt64) hx hb dL_cellOf_7 rfl ?_
    refine L_last hC hP hD hS dL_cellOf_8 (fun H locs hP hD hS => ?_)
    refine lv_goto (tgt := 15) hx hb dL_cellOf_9 (by decide) ?_
    refine lv_iconst (v := 0) hx hb dL_cellOf_15 (by decide) ?_
    exact L_iret (z := (g1, vp_updL f 0 r.toInt64)) hC hr hk hP hS hv dL_cellOf_16 (Nat.le_of_ble_eq_true rfl) (Nat.le_of_ble_eq_true rfl)
def V_L_unitOn (x1 : Int32) (g : St) (f : Nat → Int64) (post : Int32 → St × (Nat → Int64) → Prop) : Prop := V_X6_unitOn x1 g (fun r g1 => post 0 (g1, vp_updL f 0 (Int32.toInt64 r))) (fun E g1 => (E = "java/lang/IndexOutOfBoundsException" ∧ post 1 (g1, f)))
abbrev rm_L_unitOn : Room := { frames := 8, cells := 4, slots := 24, locals := 131 }
set_option maxHeartbeats 4000000 in
set_option maxRecDepth 100000 in
theorem c_L_unitOn (l : Launch) (hfl : l.flags = flags0) (D : va_G) (cs az a : Nat → Nat) (ao : Nat) (x1 : Int32) (g : St) (f : Nat → Int64) (post : Int32 → St × (Nat → Int64) → Prop) (hv : V_L_unitOn x1 g f post) : uLi l yL_unitOn wsL_unitOn rm_L_unitOn D cs az (wL cs a ao) [.ref (a 0), .int x1, .ref ao] (g, f) post := by
  refine u_ofL9 (cc := cL_unitOn) (maxL := 4) (by decide) rfl (Nat.le_of_ble_eq_true rfl) ?_
  intro p e s m args below meth c F ls hC htab hr hk hl hP hD hS
  have hx := hC.1.1; have hb := hC.1.2.1; have hml := hC.1.2.2.1; have hts := hC.1.2.2.2.2
  have hown : s.vm.findClass RL = some m.cls := hC.1.2.2.2.1
  have hl : lv_has ls 4 [(0, .ref (a 0)), (1, .int x1), (2, .ref ao)] := hl
  have hP : va_P D vwCl (gW cs a g ++ wOut cs ao f) s.heap := hP; have hD : va_D F (gW cs a g ++ wOut cs ao f) := hD
  unfold V_L_unitOn at hv
  refine lv_aload_n hx hb dL_unitOn_0 rfl (lv_at hl 2 rfl) ?_
  refine lv_iconst (v := 0) hx hb dL_unitOn_1 (by decide) ?_
  refine lv_aload_n hx hb dL_unitOn_2 rfl (lv_at hl 0 rfl) ?_
  refine lv_iload_n hx hb dL_unitOn_3 rfl (lv_at hl 1 rfl) ?_
  refine L_callTi hC (c_X6_unitOn l hfl D cs az a x1 g _ _ hv) (cwV 1 hts gL_unitOn_X6_unitOn rfl rfl rfl (by decide +kernel) ⟨Nat.le_of_ble_eq_true rfl, Nat.le_of_ble_eq_true rfl⟩) rfl hl rfl (Nat.le_of_ble_eq_true rfl) dL_unitOn_4 hP hD hS (Nat.le_of_ble_eq_true rfl) (Nat.le_of_ble_eq_true rfl) (fun E ce q9 g1 H locs hv hP hD hS e1 e2 e3 => ?_) (fun r g1 H locs hv hP hD hS => ?_)
  · obtain ⟨hEq, hv⟩ := hv
    subst hEq
    refine vx_catch (name := "java/lang/IndexOutOfBoundsException") hown (tableOf []) ⟨0, 9, 12, 19⟩ (tableOf []) (htab.trans rfl) (fun _ h => absurd h List.not_mem_nil) (by decide) (by decide) (hts (.classLink RL 19 "java/lang/IndexOutOfBoundsException") (List.mem_of_getElem? (i := 1) rfl)) (va_Nw.use rfl (hC.2.2.2.2.2.2.2.2.2.1 (.castable "java/lang/IndexOutOfBoundsException" "java/lang/IndexOutOfBoundsException") (List.mem_of_getElem? (i := 5) rfl))) e1 e2 e3 ?_
    refine lv_astore_n (lv' := [(3, .ref q9), (0, .ref (a 0)), (1, .int x1), (2, .ref ao)]) hx hb dL_unitOn_12 rfl hl (by decide) rfl (fun ls hl => ?_)
    refine lv_iconst (v := 1) hx hb dL_unitOn_13 (by decide) ?_
    exact L_iret (z := (g1, f)) hC hr hk hP hS hv dL_unitOn_14 (Nat.le_of_ble_eq_true rfl) (Nat.le_of_ble_eq_true rfl)
  · refine lv_i2l (v := r.toInt64) hx hb dL_unitOn_7 rfl ?_
    refine L_last hC hP hD hS dL_unitOn_8 (fun H locs hP hD hS => ?_)
    refine lv_goto (tgt := 15) hx hb dL_unitOn_9 (by decide) ?_
    refine lv_iconst (v := 0) hx hb dL_unitOn_15 (by decide) ?_
    exact L_iret (z := (g1, vp_updL f 0 r.toInt64)) hC hr hk hP hS hv dL_unitOn_16 (Nat.le_of_ble_eq_true rfl) (Nat.le_of_ble_eq_true rfl)
def V_L_sees (x1 : Int32) (x2 : Int32) (g : St) (f : Nat → Int64) (post : Int32 → St × (Nat → Int64) → Prop) : Prop := V_X6_sees x1 x2 g (fun r g1 => (r = 0 → post 0 (g1, vp_updL f 0 0)) ∧ (¬ r = 0 → post 0 (g1, vp_updL f 0 1))) (fun E g1 => (E = "java/lang/IndexOutOfBoundsException" ∧ post 1 (g1, f)))
abbrev rm_L_sees : Room := { frames := 8, cells := 4, slots := 24, locals := 133 }
set_option maxHeartbeats 4000000 in
set_option maxRecDepth 100000 in
theorem c_L_sees (l : Launch) (hfl : l.flags = flags0) (D : va_G) (cs az a : Nat → Nat) (ao : Nat) (x1 : Int32) (x2 : Int32) (g : St) (f : Nat → Int64) (post : Int32 → St × (Nat → Int64) → Prop) (hv : V_L_sees x1 x2 g f post) : uLi l yL_sees wsL_sees rm_L_sees D cs az (wL cs a ao) [.ref (a 0), .int x1, .int x2, .ref ao] (g, f) post := by
  refine u_ofL9 (cc := cL_sees) (maxL := 5) (by decide) rfl (Nat.le_of_ble_eq_true rfl) ?_
  intro p e s m args below meth c F ls hC htab hr hk hl hP hD hS
  have hx := hC.1.1; have hb := hC.1.2.1; have hml := hC.1.2.2.1; have hts := hC.1.2.2.2.2
  have hown : s.vm.findClass RL = some m.cls := hC.1.2.2.2.1
  have hl : lv_has ls 5 [(0, .ref (a 0)), (1, .int x1), (2, .int x2), (3, .ref ao)] := hl
  have hP : va_P D vwCl (gW cs a g ++ wOut cs ao f) s.heap := hP; have hD : va_D F (gW cs a g ++ wOut cs ao f) := hD
  unfold V_L_sees at hv
  refine lv_aload_n hx hb dL_sees_0 rfl (lv_at hl 3 rfl) ?_
  refine lv_iconst (v := 0) hx hb dL_sees_1 (by decide) ?_
  refine lv_aload_n hx hb dL_sees_2 rfl (lv_at hl 0 rfl) ?_
  refine lv_iload_n hx hb dL_sees_3 rfl (lv_at hl 1 rfl) ?_
  refine lv_iload_n hx hb dL_sees_4 rfl (lv_at hl 2 rfl) ?_
  refine L_callTi hC (c_X6_sees l hfl D cs az a x1 x2 g _ _ hv) (cwV 2 hts gL_sees_X6_sees rfl rfl rfl (by decide +kernel) ⟨Nat.le_of_ble_eq_true rfl, Nat.le_of_ble_eq_true rfl⟩) rfl hl rfl (Nat.le_of_ble_eq_true rfl) dL_sees_5 hP hD hS (Nat.le_of_ble_eq_true rfl) (Nat.le_of_ble_eq_true rfl) (fun E ce q9 g1 H locs hv hP hD hS e1 e2 e3 => ?_) (fun r g1 H locs hv hP hD hS => ?_)
  · obtain ⟨hEq, hv⟩ := hv
    subst hEq
    refine vx_catch (name := "java/lang/IndexOutOfBoundsException") hown (tableOf []) ⟨0, 17, 20, 19⟩ (tableOf []) (htab.trans rfl) (fun _ h => absurd h List.not_mem_nil) (by decide) (by decide) (hts (.classLink RL 19 "java/lang/IndexOutOfBoundsException") (List.mem_of_getElem? (i := 1) rfl)) (va_Nw.use rfl (hC.2.2.2.2.2.2.2.2.2.1 (.castable "java/lang/IndexOutOfBoundsException" "java/lang/IndexOutOfBoundsException") (List.mem_of_getElem? (i := 5) rfl))) e1 e2 e3 ?_
    refine lv_astore (lv' := [(4, .ref q9), (0, .ref (a 0)), (1, .int x1), (2, .int x2), (3, .ref ao)]) hx hb dL_sees_20 hl (by decide) rfl (fun ls hl => ?_)
    refine lv_iconst (v := 1) hx hb dL_sees_22 (by decide) ?_
    exact L_iret (z := (g1, f)) hC hr hk hP hS hv dL_sees_23 (Nat.le_of_ble_eq_true rfl) (Nat.le_of_ble_eq_true rfl)
  · refine lv_if_eq (tgt := 15) hx hb dL_sees_8 (by decide) (fun c => ?_) (fun c => ?_)
    · have hv := hv.1 c
      refine lv_lconst (v := 0) hx hb dL_sees_15 (by decide) ?_
      refine L_last hC hP hD hS dL_sees_16 (fun H locs hP hD hS => ?_)
      refine lv_goto (tgt := 24) hx hb dL_sees_17 (by decide) ?_
      refine lv_iconst (v := 0) hx hb dL_sees_24 (by decide) ?_
      exact L_iret (z := (g1, vp_updL f 0 0)) hC hr hk hP hS hv dL_sees_25 (Nat.le_of_ble_eq_true rfl) (Nat.le_of_ble_eq_true rfl)
    · have hv := hv.2 c
      refine lv_lconst (v := 1) hx hb dL_sees_11 (by decide) ?_
      refine lv_goto (tgt := 16) hx hb dL_sees_12 (by decide) ?_
      refine L_last hC hP hD hS dL_sees_16 (fun H locs hP hD hS => ?_)
      refine lv_goto (tgt := 24) hx hb dL_sees_17 (by decide) ?_
      refine lv_iconst (v := 0) hx hb dL_sees_24 (by decide) ?_
      exact L_iret (z := (g1, vp_updL f 0 1)) hC hr hk hP hS hv dL_sees_25 (Nat.le_of_ble_eq_true rfl) (Nat.le_of_ble_eq_true rfl)
def V_L_seen (x1 : Int32) (g : St) (f : Nat → Int64) (post : Int32 → St × (Nat → Int64) → Prop) : Prop := V_X6_seen x1 g (fun r g1 => post 0 (g1, vp_updL f 0 (Int32.toInt64 r))) (fun E g1 => (E = "java/lang/IndexOutOfBoundsException" ∧ post 1 (g1, f)))
abbrev rm_L_seen : Room := { frames := 8, cells := 4, slots := 24, locals := 144 }
set_option maxHeartbeats 4000000 in
set_option maxRecDepth 100000 in
theorem c_L_seen (l : Launch) (hfl : l.flags = flags0) (D : va_G) (cs az a : Nat → Nat) (ao : Nat) (x1 : Int32) (g : St) (f : Nat → Int64) (post : Int32 → St × (Nat → Int64) → Prop) (hv : V_L_seen x1 g f post) : uLi l yL_seen wsL_seen rm_L_seen D cs az (wL cs a ao) [.ref (a 0), .int x1, .ref ao] (g, f) post := by
  refine u_ofL9 (cc := cL_seen) (maxL := 4) (by decide) rfl (Nat.le_of_ble_eq_true rfl) ?_
  intro p e s m args below meth c F ls hC htab hr hk hl hP hD hS
  have hx := hC.1.1; have hb := hC.1.2.1; have hml := hC.1.2.2.1; have hts := hC.1.2.2.2.2
  have hown : s.vm.findClass RL = some m.cls := hC.1.2.2.2.1
  have hl : lv_has ls 4 [(0, .ref (a 0)), (1, .int x1), (2, .ref ao)] := hl
  have hP : va_P D vwCl (gW cs a g ++ wOut cs ao f) s.heap := hP; have hD : va_D F (gW cs a g ++ wOut cs ao f) := hD
  unfold V_L_seen at hv
  refine lv_aload_n hx hb dL_seen_0 rfl (lv_at hl 2 rfl) ?_
  refine lv_iconst (v := 0) hx hb dL_seen_1 (by decide) ?_
  refine lv_aload_n hx hb dL_seen_2 rfl (lv_at hl 0 rfl) ?_
  refine lv_iload_n hx hb dL_seen_3 rfl (lv_at hl 1 rfl) ?_
  refine L_callTi hC (c_X6_seen l hfl D cs az a x1 g _ _ hv) (cwV 1 hts gL_seen_X6_seen rfl rfl rfl (by decide +kernel) ⟨Nat.le_of_ble_eq_true rfl, Nat.le_of_ble_eq_true rfl⟩) rfl hl rfl (Nat.le_of_ble_eq_true rfl) dL_seen_4 hP hD hS (Nat.le_of_ble_eq_true rfl) (Nat.le_of_ble_eq_true rfl) (fun E ce q9 g1 H locs hv hP hD hS e1 e2 e3 => ?_) (fun r g1 H locs hv hP hD hS => ?_)
  · obtain ⟨hEq, hv⟩ := hv
    subst hEq
    refine vx_catch (name := "java/lang/IndexOutOfBoundsException") hown (tableOf []) ⟨0, 9, 12, 19⟩ (tableOf []) (htab.trans rfl) (fun _ h => absurd h List.not_mem_nil) (by decide) (by decide) (hts (.classLink RL 19 "java/lang/IndexOutOfBoundsException") (List.mem_of_getElem? (i := 1) rfl)) (va_Nw.use rfl (hC.2.2.2.2.2.2.2.2.2.1 (.castable "java/lang/IndexOutOfBoundsException" "java/lang/IndexOutOfBoundsException") (List.mem_of_getElem? (i := 5) rfl))) e1 e2 e3 ?_
    refine lv_astore_n (lv' := [(3, .ref q9), (0, .ref (a 0)), (1, .int x1), (2, .ref ao)]) hx hb dL_seen_12 rfl hl (by decide) rfl (fun ls hl => ?_)
    refine lv_iconst (v := 1) hx hb dL_seen_13 (by decide) ?_
    exact L_iret (z := (g1, f)) hC hr hk hP hS hv dL_seen_14 (Nat.le_of_ble_eq_true rfl) (Nat.le_of_ble_eq_true rfl)
  · refine lv_i2l (v := r.toInt64) hx hb dL_seen_7 rfl ?_
    refine L_last hC hP hD hS dL_seen_8 (fun H locs hP hD hS => ?_)
    refine lv_goto (tgt := 15) hx hb dL_seen_9 (by decide) ?_
    refine lv_iconst (v := 0) hx hb dL_seen_15 (by decide) ?_
    exact L_iret (z := (g1, vp_updL f 0 r.toInt64)) hC hr hk hP hS hv dL_seen_16 (Nat.le_of_ble_eq_true rfl) (Nat.le_of_ble_eq_true rfl)
def V_L_setTreaty (x1 : Int32) (x2 : Int32) (x3 : Int32) (g : St) (f : Nat → Int64) (post : Int32 → St × (Nat → Int64) → Prop) : Prop := V_X6_setTreaty x1 x2 x3 g (fun r g1 => (r = 0 → post 0 (g1, vp_updL f 0 0)) ∧ (¬ r = 0 → post 0 (g1, vp_updL f 0 1))) (fun E g1 => (E = "java/lang/IndexOutOfBoundsException" ∧ post 1 (g1, f)) ∨ (E = "java/lang/IllegalArgumentException" ∧ post 2 (g1, f)))
abbrev rm_L_setTreaty : Room := { frames := 8, cells := 4, slots := 24, locals := 134 }
set_option maxHeartbeats 4000000 in
set_option maxRecDepth 100000 in
theorem c_L_setTreaty (l : Launch) (hfl : l.flags = flags0) (D : va_G) (cs az a : Nat → Nat) (ao : Nat) (x1 : Int32) (x2 : Int32) (x3 : Int32) (g : St) (f : Nat → Int64) (post : Int32 → St × (Nat → Int64) → Prop) (hv : V_L_setTreaty x1 x2 x3 g f post) : uLi l yL_setTreaty wsL_setTreaty rm_L_setTreaty D cs az (wL cs a ao) [.ref (a 0), .int x1, .int x2, .int x3, .ref ao] (g, f) post := by
  refine u_ofL9 (cc := cL_setTreaty) (maxL := 6) (by decide) rfl (Nat.le_of_ble_eq_true rfl) ?_
  intro p e s m args below meth c F ls hC htab hr hk hl hP hD hS
  have hx := hC.1.1; have hb := hC.1.2.1; have hml := hC.1.2.2.1; have hts := hC.1.2.2.2.2
  have hown : s.vm.findClass RL = some m.cls := hC.1.2.2.2.1
  have hl : lv_has ls 6 [(0, .ref (a 0)), (1, .int x1), (2, .int x2), (3, .int x3), (4, .ref ao)] := hl
  have hP : va_P D vwCl (gW cs a g ++ wOut cs ao f) s.heap := hP; have hD : va_D F (gW cs a g ++ wOut cs ao f) := hD
  unfold V_L_setTreaty at hv
  refine lv_aload hx hb dL_setTreaty_0 (lv_at hl 4 rfl) ?_
  refine lv_iconst (v := 0) hx hb dL_setTreaty_2 (by decide) ?_
  refine lv_aload_n hx hb dL_setTreaty_3 rfl (lv_at hl 0 rfl) ?_
  refine lv_iload_n hx hb dL_setTreaty_4 rfl (lv_at hl 1 rfl) ?_
  refine lv_iload_n hx hb dL_setTreaty_5 rfl (lv_at hl 2 rfl) ?_
  refine lv_iload_n hx hb dL_setTreaty_6 rfl (lv_at hl 3 rfl) ?_
  refine L_callTi hC (c_X6_setTreaty l hfl D cs az a x1 x2 x3 g _ _ hv) (cwV 3 hts gL_setTreaty_X6_setTreaty rfl rfl rfl (by decide +kernel) ⟨Nat.le_of_ble_eq_true rfl, Nat.le_of_ble_eq_true rfl⟩) rfl hl rfl (Nat.le_of_ble_eq_true rfl) dL_setTreaty_7 hP hD hS (Nat.le_of_ble_eq_true rfl) (Nat.le_of_ble_eq_true rfl) (fun E ce q9 g1 H locs hv hP hD hS e1 e2 e3 => ?_) (fun r g1 H locs hv hP hD hS => ?_)
  · rcases hv with ⟨hEq, hv⟩ | ⟨hEq, hv⟩
    · subst hEq
      refine vx_catch (name := "java/lang/IndexOutOfBoundsException") hown (tableOf []) ⟨0, 19, 22, 19⟩ (tableOf [(0, 19, 26, 25)]) (htab.trans rfl) (fun _ h => absurd h List.not_mem_nil) (by decide) (by decide) (hts (.classLink RL 19 "java/lang/IndexOutOfBoundsException") (List.mem_of_getElem? (i := 1) rfl)) (va_Nw.use rfl (hC.2.2.2.2.2.2.2.2.2.1 (.castable "java/lang/IndexOutOfBoundsException" "java/lang/IndexOutOfBoundsException") (List.mem_of_getElem? (i := 5) rfl))) e1 e2 e3 ?_
      refine lv_astore (lv' := [(5, .ref q9), (0, .ref (a 0)), (1, .int x1), (2, .int x2), (3, .int x3), (4, .ref ao)]) hx hb dL_setTreaty_22 hl (by decide) rfl (fun ls hl => ?_)
      refine lv_iconst (v := 1) hx hb dL_setTreaty_24 (by decide) ?_
      exact L_iret (z := (g1, f)) hC hr hk hP hS hv dL_setTreaty_25 (Nat.le_of_ble_eq_true rfl) (Nat.le_of_ble_eq_true rfl)
    · subst hEq
      refine vx_catch (name := "java/lang/IllegalArgumentException") hown (tableOf [(0, 19, 22, 19)]) ⟨0, 19, 26, 25⟩ (tableOf []) (htab.trans rfl) (List.forall_mem_cons.mpr ⟨Or.inr ⟨by decide, "java/lang/IndexOutOfBoundsException", hts (.classLink RL 19 "java/lang/IndexOutOfBoundsException") (List.mem_of_getElem? (i := 1) rfl), hC.2.2.2.2.2.2.2.2.2.2 _ (List.mem_of_getElem? (i := 6) rfl)⟩, (fun _ h => absurd h List.not_mem_nil)⟩) (by decide) (by decide) (hts (.classLink RL 25 "java/lang/IllegalArgumentException") (List.mem_of_getElem? (i := 2) rfl)) (va_Nw.use rfl (hC.2.2.2.2.2.2.2.2.2.1 (.castable "java/lang/IllegalArgumentException" "java/lang/IllegalArgumentException") (List.mem_of_getElem? (i := 4) rfl))) e1 e2 e3 ?_
      refine lv_astore (lv' := [(5, .ref q9), (0, .ref (a 0)), (1, .int x1), (2, .int x2), (3, .int x3), (4, .ref ao)]) hx hb dL_setTreaty_26 hl (by decide) rfl (fun ls hl => ?_)
      refine lv_iconst (v := 2) hx hb dL_setTreaty_28 (by decide) ?_
      exact L_iret (z := (g1, f)) hC hr hk hP hS hv dL_setTreaty_29 (Nat.le_of_ble_eq_true rfl) (Nat.le_of_ble_eq_true rfl)
  · refine lv_if_eq (tgt := 17) hx hb dL_setTreaty_10 (by decide) (fun c => ?_) (fun c => ?_)
    · have hv := hv.1 c
      refine lv_lconst (v := 0) hx hb dL_setTreaty_17 (by decide) ?_
      refine L_last hC hP hD hS dL_setTreaty_18 (fun H locs hP hD hS => ?_)
      refine lv_goto (tgt := 30) hx hb dL_setTreaty_19 (by decide) ?_
      refine lv_iconst (v := 0) hx hb dL_setTreaty_30 (by decide) ?_
      exact L_iret (z := (g1, vp_updL f 0 0)) hC hr hk hP hS hv dL_setTreaty_31 (Nat.le_of_ble_eq_true rfl) (Nat.le_of_ble_eq_true rfl)
    · have hv := hv.2 c
      refine lv_lconst (v := 1) hx hb dL_setTreaty_13 (by decide) ?_
      refine lv_goto (tgt := 18) hx hb dL_setTreaty_14 (by decide) ?_
      refine L_last hC hP hD hS dL_setTreaty_18 (fun H locs hP hD hS => ?_)
      refine lv_goto (tgt := 30) hx hb dL_setTreaty_19 (by decide) ?_
      refine lv_iconst (v := 0) hx hb dL_setTreaty_30 (by decide) ?_
      exact L_iret (z := (g1, vp_updL f 0 1)) hC hr hk hP hS hv dL_setTreaty_31 (Nat.le_of_ble_eq_true rfl) (Nat.le_of_ble_eq_true rfl)
def V_L_sightings (x1 : Int32) (g : St) (f : Nat → Int64) (post : Int32 → St × (Nat → Int64) → Prop) : Prop := V_X6_sightings x1 g (fun r g1 => post 0 (g1, vp_updL f 0 (Int32.toInt64 r))) (fun E g1 => (E = "java/lang/IndexOutOfBoundsException" ∧ post 1 (g1, f)))
abbrev rm_L_sightings : Room := { frames := 8, cells := 4, slots := 24, locals := 131 }
set_option maxHeartbeats 4000000 in
set_option maxRecDepth 100000 in
theorem c_L_sightings (l : Launch) (hfl : l.flags = flags0) (D : va_G) (cs az a : Nat → Nat) (ao : Nat) (x1 : Int32) (g : St) (f : Nat → Int64) (post : Int32 → St × (Nat → Int64) → Prop) (hv : V_L_sightings x1 g f post) : uLi l yL_sightings wsL_sightings rm_L_sightings D cs az (wL cs a ao) [.ref (a 0), .int x1, .ref ao] (g, f) post := by
  refine u_ofL9 (cc := cL_sightings) (maxL := 4) (by decide) rfl (Nat.le_of_ble_eq_true rfl) ?_
  intro p e s m args below meth c F ls hC htab hr hk hl hP hD hS
  have hx := hC.1.1; have hb := hC.1.2.1; have hml := hC.1.2.2.1; have hts := hC.1.2.2.2.2
  have hown : s.vm.findClass RL = some m.cls := hC.1.2.2.2.1
  have hl : lv_has ls 4 [(0, .ref (a 0)), (1, .int x1), (2, .ref ao)] := hl
  have hP : va_P D vwCl (gW cs a g ++ wOut cs ao f) s.heap := hP; have hD : va_D F (gW cs a g ++ wOut cs ao f) := hD
  unfold V_L_sightings at hv
  refine lv_aload_n hx hb dL_sightings_0 rfl (lv_at hl 2 rfl) ?_
  refine lv_iconst (v := 0) hx hb dL_sightings_1 (by decide) ?_
  refine lv_aload_n hx hb dL_sightings_2 rfl (lv_at hl 0 rfl) ?_
  refine lv_iload_n hx hb dL_sightings_3 rfl (lv_at hl 1 rfl) ?_
  refine L_callTi hC (c_X6_sightings l hfl D cs az a x1 g _ _ hv) (cwV 1 hts gL_sightings_X6_sightings rfl rfl rfl (by decide +kernel) ⟨Nat.le_of_ble_eq_true rfl, Nat.le_of_ble_eq_true rfl⟩) rfl hl rfl (Nat.le_of_ble_eq_true rfl) dL_sightings_4 hP hD hS (Nat.le_of_ble_eq_true rfl) (Nat.le_of_ble_eq_true rfl) (fun E ce q9 g1 H locs hv hP hD hS e1 e2 e3 => ?_) (fun r g1 H locs hv hP hD hS => ?_)
  · obtain ⟨hEq, hv⟩ := hv
    subst hEq
    refine vx_catch (name := "java/lang/IndexOutOfBoundsException") hown (tableOf []) ⟨0, 9, 12, 19⟩ (tableOf []) (htab.trans rfl) (fun _ h => absurd h List.not_mem_nil) (by decide) (by decide) (hts (.classLink RL 19 "java/lang/IndexOutOfBoundsException") (List.mem_of_getElem? (i := 1) rfl)) (va_Nw.use rfl (hC.2.2.2.2.2.2.2.2.2.1 (.castable "java/lang/IndexOutOfBoundsException" "java/lang/IndexOutOfBoundsException") (List.mem_of_getElem? (i := 5) rfl))) e1 e2 e3 ?_
    refine lv_astore_n (lv' := [(3, .ref q9), (0, .ref (a 0)), (1, .int x1), (2, .ref ao)]) hx hb dL_sightings_12 rfl hl (by decide) rfl (fun ls hl => ?_)
    refine lv_iconst (v := 1) hx hb dL_sightings_13 (by decide) ?_
    exact L_iret (z := (g1, f)) hC hr hk hP hS hv dL_sightings_14 (Nat.le_of_ble_eq_true rfl) (Nat.le_of_ble_eq_true rfl)
  · refine lv_i2l (v := r.toInt64) hx hb dL_sightings_7 rfl ?_
    refine L_last hC hP hD hS dL_sightings_8 (fun H locs hP hD hS => ?_)
    refine lv_goto (tgt := 15) hx hb dL_sightings_9 (by decide) ?_
    refine lv_iconst (v := 0) hx hb dL_sightings_15 (by decide) ?_
    exact L_iret (z := (g1, vp_updL f 0 r.toInt64)) hC hr hk hP hS hv dL_sightings_16 (Nat.le_of_ble_eq_true rfl) (Nat.le_of_ble_eq_true rfl)
def V_L_sighting (x1 : Int32) (x2 : Int32) (x3 : Int32) (g : St) (f : Nat → Int64) (post : Int32 → St × (Nat → Int64) → Prop) : Prop := V_X6_sighting x1 x2 x3 g (fun r g1 => post 0 (g1, vp_updL f 0 (Int32.toInt64 r))) (fun E g1 => (E = "java/lang/IndexOutOfBoundsException" ∧ post 1 (g1, f)) ∨ (E = "java/lang/IllegalArgumentException" ∧ post 2 (g1, f)))
abbrev rm_L_sighting : Room := { frames := 8, cells := 4, slots := 24, locals := 134 }
set_option maxHeartbeats 4000000 in
set_option maxRecDepth 100000 in
theorem c_L_sighting (l : Launch) (hfl : l.flags = flags0) (D : va_G) (cs az a : Nat → Nat) (ao : Nat) (x1 : Int32) (x2 : Int32) (x3 : Int32) (g : St) (f : Nat → Int64) (post : Int32 → St × (Nat → Int64) → Prop) (hv : V_L_sighting x1 x2 x3 g f post) : uLi l yL_sighting wsL_sighting rm_L_sighting D cs az (wL cs a ao) [.ref (a 0), .int x1, .int x2, .int x3, .ref ao] (g, f) post := by
  refine u_ofL9 (cc := cL_sighting) (maxL := 6) (by decide) rfl (Nat.le_of_ble_eq_true rfl) ?_
  intro p e s m args below meth c F ls hC htab hr hk hl hP hD hS
  have hx := hC.1.1; have hb := hC.1.2.1; have hml := hC.1.2.2.1; have hts := hC.1.2.2.2.2
  have hown : s.vm.findClass RL = some m.cls := hC.1.2.2.2.1
  have hl : lv_has ls 6 [(0, .ref (a 0)), (1, .int x1), (2, .int x2), (3, .int x3), (4, .ref ao)] := hl
  have hP : va_P D vwCl (gW cs a g ++ wOut cs ao f) s.heap := hP; have hD : va_D F (gW cs a g ++ wOut cs ao f) := hD
  unfold V_L_sighting at hv
  refine lv_aload hx hb dL_sighting_0 (lv_at hl 4 rfl) ?_
  refine lv_iconst (v := 0) hx hb dL_sighting_2 (by decide) ?_
  refine lv_aload_n hx hb dL_sighting_3 rfl (lv_at hl 0 rfl) ?_
  refine lv_iload_n hx hb dL_sighting_4 rfl (lv_at hl 1 rfl) ?_
  refine lv_iload_n hx hb dL_sighting_5 rfl (lv_at hl 2 rfl) ?_
  refine lv_iload_n hx hb dL_sighting_6 rfl (lv_at hl 3 rfl) ?_
  refine L_callTi hC (c_X6_sighting l hfl D cs az a x1 x2 x3 g _ _ hv) (cwV 3 hts gL_sighting_X6_sighting rfl rfl rfl (by decide +kernel) ⟨Nat.le_of_ble_eq_true rfl, Nat.le_of_ble_eq_true rfl⟩) rfl hl rfl (Nat.le_of_ble_eq_true rfl) dL_sighting_7 hP hD hS (Nat.le_of_ble_eq_true rfl) (Nat.le_of_ble_eq_true rfl) (fun E ce q9 g1 H locs hv hP hD hS e1 e2 e3 => ?_) (fun r g1 H locs hv hP hD hS => ?_)
  · rcases hv with ⟨hEq, hv⟩ | ⟨hEq, hv⟩
    · subst hEq
      refine vx_catch (name := "java/lang/IndexOutOfBoundsException") hown (tableOf []) ⟨0, 12, 15, 19⟩ (tableOf [(0, 12, 19, 25)]) (htab.trans rfl) (fun _ h => absurd h List.not_mem_nil) (by decide) (by decide) (hts (.classLink RL 19 "java/lang/IndexOutOfBoundsException") (List.mem_of_getElem? (i := 1) rfl)) (va_Nw.use rfl (hC.2.2.2.2.2.2.2.2.2.1 (.castable "java/lang/IndexOutOfBoundsException" "java/lang/IndexOutOfBoundsException") (List.mem_of_getElem? (i := 5) rfl))) e1 e2 e3 ?_
      refine lv_astore (lv' := [(5, .ref q9), (0, .ref (a 0)), (1, .int x1), (2, .int x2), (3, .int x3), (4, .ref ao)]) hx hb dL_sighting_15 hl (by decide) rfl (fun ls hl => ?_)
      refine lv_iconst (v := 1) hx hb dL_sighting_17 (by decide) ?_
      exact L_iret (z := (g1, f)) hC hr hk hP hS hv dL_sighting_18 (Nat.le_of_ble_eq_true rfl) (Nat.le_of_ble_eq_true rfl)
    · subst hEq
      refine vx_catch (name := "java/lang/IllegalArgumentException") hown (tableOf [(0, 12, 15, 19)]) ⟨0, 12, 19, 25⟩ (tableOf []) (htab.trans rfl) (List.forall_mem_cons.mpr ⟨Or.inr ⟨by decide, "java/lang/IndexOutOfBoundsException", hts (.classLink RL 19 "java/lang/IndexOutOfBoundsException") (List.mem_of_getElem? (i := 1) rfl), hC.2.2.2.2.2.2.2.2.2.2 _ (List.mem_of_getElem? (i := 6) rfl)⟩, (fun _ h => absurd h List.not_mem_nil)⟩) (by decide) (by decide) (hts (.classLink RL 25 "java/lang/IllegalArgumentException") (List.mem_of_getElem? (i := 2) rfl)) (va_Nw.use rfl (hC.2.2.2.2.2.2.2.2.2.1 (.castable "java/lang/IllegalArgumentException" "java/lang/IllegalArgumentException") (List.mem_of_getElem? (i := 4) rfl))) e1 e2 e3 ?_
      refine lv_astore (lv' := [(5, .ref q9), (0, .ref (a 0)), (1, .int x1), (2, .int x2), (3, .int x3), (4, .ref ao)]) hx hb dL_sighting_19 hl (by decide) rfl (fun ls hl => ?_)
      refine lv_iconst (v := 2) hx hb dL_sighting_21 (by decide) ?_
      exact L_iret (z := (g1, f)) hC hr hk hP hS hv dL_sighting_22 (Nat.le_of_ble_eq_true rfl) (Nat.le_of_ble_eq_true rfl)
  · refine lv_i2l (v := r.toInt64) hx hb dL_sighting_10 rfl ?_
    refine L_last hC hP hD hS dL_sighting_11 (fun H locs hP hD hS => ?_)
    refine lv_goto (tgt := 23) hx hb dL_sighting_12 (by decide) ?_
    refine lv_iconst (v := 0) hx hb dL_sighting_23 (by decide) ?_
    exact L_iret (z := (g1, vp_updL f 0 r.toInt64)) hC hr hk hP hS hv dL_sighting_24 (Nat.le_of_ble_eq_true rfl) (Nat.le_of_ble_eq_true rfl)
def V_L_age (x1 : Int32) (x2 : Int32) (g : St) (f : Nat → Int64) (post : Int32 → St × (Nat → Int64) → Prop) : Prop := V_X6_age x1 x2 g (fun r g1 => post 0 (g1, vp_updL f 0 (Int32.toInt64 r))) (fun E g1 => (E = "java/lang/IndexOutOfBoundsException" ∧ post 1 (g1, f)) ∨ (E = "java/util/NoSuchElementException" ∧ post 2 (g1, f)))
abbrev rm_L_age : Room := { frames := 8, cells := 4, slots := 24, locals := 133 }
set_option maxHeartbeats 4000000 in
set_option maxRecDepth 100000 in
theorem c_L_age (l : Launch) (hfl : l.flags = flags0) (D : va_G) (cs az a : Nat → Nat) (ao : Nat) (x1 : Int32) (x2 : Int32) (g : St) (f : Nat → Int64) (post : Int32 → St × (Nat → Int64) → Prop) (hv : V_L_age x1 x2 g f post) : uLi l yL_age wsL_age rm_L_age D cs az (wL cs a ao) [.ref (a 0), .int x1, .int x2, .ref ao] (g, f) post := by
  refine u_ofL9 (cc := cL_age) (maxL := 5) (by decide) rfl (Nat.le_of_ble_eq_true rfl) ?_
  intro p e s m args below meth c F ls hC htab hr hk hl hP hD hS
  have hx := hC.1.1; have hb := hC.1.2.1; have hml := hC.1.2.2.1; have hts := hC.1.2.2.2.2
  have hown : s.vm.findClass RL = some m.cls := hC.1.2.2.2.1
  have hl : lv_has ls 5 [(0, .ref (a 0)), (1, .int x1), (2, .int x2), (3, .ref ao)] := hl
  have hP : va_P D vwCl (gW cs a g ++ wOut cs ao f) s.heap := hP; have hD : va_D F (gW cs a g ++ wOut cs ao f) := hD
  unfold V_L_age at hv
  refine lv_aload_n hx hb dL_age_0 rfl (lv_at hl 3 rfl) ?_
  refine lv_iconst (v := 0) hx hb dL_age_1 (by decide) ?_
  refine lv_aload_n hx hb dL_age_2 rfl (lv_at hl 0 rfl) ?_
  refine lv_iload_n hx hb dL_age_3 rfl (lv_at hl 1 rfl) ?_
  refine lv_iload_n hx hb dL_age_4 rfl (lv_at hl 2 rfl) ?_
  refine L_callTi hC (c_X6_age l hfl D cs az a x1 x2 g _ _ hv) (cwV 2 hts gL_age_X6_age rfl rfl rfl (by decide +kernel) ⟨Nat.le_of_ble_eq_true rfl, Nat.le_of_ble_eq_true rfl⟩) rfl hl rfl (Nat.le_of_ble_eq_true rfl) dL_age_5 hP hD hS (Nat.le_of_ble_eq_true rfl) (Nat.le_of_ble_eq_true rfl) (fun E ce q9 g1 H locs hv hP hD hS e1 e2 e3 => ?_) (fun r g1 H locs hv hP hD hS => ?_)
  · rcases hv with ⟨hEq, hv⟩ | ⟨hEq, hv⟩
    · subst hEq
      refine vx_catch (name := "java/lang/IndexOutOfBoundsException") hown (tableOf []) ⟨0, 10, 13, 19⟩ (tableOf [(0, 10, 17, 64)]) (htab.trans rfl) (fun _ h => absurd h List.not_mem_nil) (by decide) (by decide) (hts (.classLink RL 19 "java/lang/IndexOutOfBoundsException") (List.mem_of_getElem? (i := 1) rfl)) (va_Nw.use rfl (hC.2.2.2.2.2.2.2.2.2.1 (.castable "java/lang/IndexOutOfBoundsException" "java/lang/IndexOutOfBoundsException") (List.mem_of_getElem? (i := 5) rfl))) e1 e2 e3 ?_
      refine lv_astore (lv' := [(4, .ref q9), (0, .ref (a 0)), (1, .int x1), (2, .int x2), (3, .ref ao)]) hx hb dL_age_13 hl (by decide) rfl (fun ls hl => ?_)
      refine lv_iconst (v := 1) hx hb dL_age_15 (by decide) ?_
      exact L_iret (z := (g1, f)) hC hr hk hP hS hv dL_age_16 (Nat.le_of_ble_eq_true rfl) (Nat.le_of_ble_eq_true rfl)
    · subst hEq
      refine vx_catch (name := "java/util/NoSuchElementException") hown (tableOf [(0, 10, 13, 19)]) ⟨0, 10, 17, 64⟩ (tableOf []) (htab.trans rfl) (List.forall_mem_cons.mpr ⟨Or.inr ⟨by decide, "java/lang/IndexOutOfBoundsException", hts (.classLink RL 19 "java/lang/IndexOutOfBoundsException") (List.mem_of_getElem? (i := 1) rfl), hC.2.2.2.2.2.2.2.2.2.2 _ (List.mem_of_getElem? (i := 27) rfl)⟩, (fun _ h => absurd h List.not_mem_nil)⟩) (by decide) (by decide) (hts (.classLink RL 64 "java/util/NoSuchElementException") (List.mem_of_getElem? (i := 2) rfl)) (va_Nw.use rfl (hC.2.2.2.2.2.2.2.2.2.1 (.castable "java/util/NoSuchElementException" "java/util/NoSuchElementException") (List.mem_of_getElem? (i := 8) rfl))) e1 e2 e3 ?_
      refine lv_astore (lv' := [(4, .ref q9), (0, .ref (a 0)), (1, .int x1), (2, .int x2), (3, .ref ao)]) hx hb dL_age_17 hl (by decide) rfl (fun ls hl => ?_)
      refine lv_iconst (v := 2) hx hb dL_age_19 (by decide) ?_
      exact L_iret (z := (g1, f)) hC hr hk hP hS hv dL_age_20 (Nat.le_of_ble_eq_true rfl) (Nat.le_of_ble_eq_true rfl)
  · refine lv_i2l (v := r.toInt64) hx hb dL_age_8 rfl ?_
    refine L_last hC hP hD hS dL_age_9 (fun H locs hP hD hS => ?_)
    refine lv_goto (tgt := 21) hx hb dL_age_10 (by decide) ?_
    refine lv_iconst (v := 0) hx hb dL_age_21 (by decide) ?_
    exact L_iret (z := (g1, vp_updL f 0 r.toInt64)) hC hr hk hP hS hv dL_age_22 (Nat.le_of_ble_eq_true rfl) (Nat.le_of_ble_eq_true rfl)
def V_L_lastSeen (x1 : Int32) (x2 : Int32) (g : St) (f : Nat → Int64) (post : Int32 → St × (Nat → Int64) → Prop) : Prop := V_X6_lastSeen x1 x2 g (fun r g1 => post 0 (g1, vp_updL f 0 (Int32.toInt64 r))) (fun E g1 => (E = "java/lang/IndexOutOfBoundsException" ∧ post 1 (g1, f)) ∨ (E = "java/util/NoSuchElementException" ∧ post 2 (g1, f)))
abbrev rm_L_lastSeen : Room := { frames := 8, cells := 4, slots := 24, locals := 134 }
set_option maxHeartbeats 4000000 in
set_option maxRecDepth 100000 in
theorem c_L_lastSeen (l : Launch) (hfl : l.flags = flags0) (D : va_G) (cs az a : Nat → Nat) (ao : Nat) (x1 : Int32) (x2 : Int32) (g : St) (f : Nat → Int64) (post : Int32 → St × (Nat → Int64) → Prop) (hv : V_L_lastSeen x1 x2 g f post) : uLi l yL_lastSeen wsL_lastSeen rm_L_lastSeen D cs az (wL cs a ao) [.ref (a 0), .int x1, .int x2, .ref ao] (g, f) post := by
  refine u_ofL9 (cc := cL_lastSeen) (maxL := 5) (by decide) rfl (Nat.le_of_ble_eq_true rfl) ?_
  intro p e s m args below meth c F ls hC htab hr hk hl hP hD hS
  have hx := hC.1.1; have hb := hC.1.2.1; have hml := hC.1.2.2.1; have hts := hC.1.2.2.2.2
  have hown : s.vm.findClass RL = some m.cls := hC.1.2.2.2.1
  have hl : lv_has ls 5 [(0, .ref (a 0)), (1, .int x1), (2, .int x2), (3, .ref ao)] := hl
  have hP : va_P D vwCl (gW cs a g ++ wOut cs ao f) s.heap := hP; have hD : va_D F (gW cs a g ++ wOut cs ao f) := hD
  unfold V_L_lastSeen at hv
  refine lv_aload_n hx hb dL_lastSeen_0 rfl (lv_at hl 3 rfl) ?_
  refine lv_iconst (v := 0) hx hb dL_lastSeen_1 (by decide) ?_
  refine lv_aload_n hx hb dL_lastSeen_2 rfl (lv_at hl 0 rfl) ?_
  refine lv_iload_n hx hb dL_lastSeen_3 rfl (lv_at hl 1 rfl) ?_
  refine lv_iload_n hx hb dL_lastSeen_4 rfl (lv_at hl 2 rfl) ?_
  refine L_callTi hC (c_X6_lastSeen l hfl D cs az a x1 x2 g _ _ hv) (cwV 2 hts gL_lastSeen_X6_lastSeen rfl rfl rfl (by decide +kernel) ⟨Nat.le_of_ble_eq_true rfl, Nat.le_of_ble_eq_true rfl⟩) rfl hl rfl (Nat.le_of_ble_eq_true rfl) dL_lastSeen_5 hP hD hS (Nat.le_of_ble_eq_true rfl) (Nat.le_of_ble_eq_true rfl) (fun E ce q9 g1 H locs hv hP hD hS e1 e2 e3 => ?_) (fun r g1 H locs hv hP hD hS => ?_)
  · rcases hv with ⟨hEq, hv⟩ | ⟨hEq, hv⟩
    · subst hEq
      refine vx_catch (name := "java/lang/IndexOutOfBoundsException") hown (tableOf []) ⟨0, 10, 13, 19⟩ (tableOf [(0, 10, 17, 64)]) (htab.trans rfl) (fun _ h => absurd h List.not_mem_nil) (by decide) (by decide) (hts (.classLink RL 19 "java/lang/IndexOutOfBoundsException") (List.mem_of_getElem? (i := 1) rfl)) (va_Nw.use rfl (hC.2.2.2.2.2.2.2.2.2.1 (.castable "java/lang/IndexOutOfBoundsException" "java/lang/IndexOutOfBoundsException") (List.mem_of_getElem? (i := 5) rfl))) e1 e2 e3 ?_
      refine lv_astore (lv' := [(4, .ref q9), (0, .ref (a 0)), (1, .int x1), (2, .int x2), (3, .ref ao)]) hx hb dL_lastSeen_13 hl (by decide) rfl (fun ls hl => ?_)
      refine lv_iconst (v := 1) hx hb dL_lastSeen_15 (by decide) ?_
      exact L_iret (z := (g1, f)) hC hr hk hP hS hv dL_lastSeen_16 (Nat.le_of_ble_eq_true rfl) (Nat.le_of_ble_eq_true rfl)
    · subst hEq
      refine vx_catch (name := "java/util/NoSuchElementException") hown (tableOf [(0, 10, 13, 19)]) ⟨0, 10, 17, 64⟩ (tableOf []) (htab.trans rfl) (List.forall_mem_cons.mpr ⟨Or.inr ⟨by decide, "java/lang/IndexOutOfBoundsException", hts (.classLink RL 19 "java/lang/IndexOutOfBoundsException") (List.mem_of_getElem? (i := 1) rfl), hC.2.2.2.2.2.2.2.2.2.2 _ (List.mem_of_getElem? (i := 27) rfl)⟩, (fun _ h => absurd h List.not_mem_nil)⟩) (by decide) (by decide) (hts (.classLink RL 64 "java/util/NoSuchElementException") (List.mem_of_getElem? (i := 2) rfl)) (va_Nw.use rfl (hC.2.2.2.2.2.2.2.2.2.1 (.castable "java/util/NoSuchElementException" "java/util/NoSuchElementException") (List.mem_of_getElem? (i := 8) rfl))) e1 e2 e3 ?_
      refine lv_astore (lv' := [(4, .ref q9), (0, .ref (a 0)), (1, .int x1), (2, .int x2), (3, .ref ao)]) hx hb dL_lastSeen_17 hl (by decide) rfl (fun ls hl => ?_)
      refine lv_iconst (v := 2) hx hb dL_lastSeen_19 (by decide) ?_
      exact L_iret (z := (g1, f)) hC hr hk hP hS hv dL_lastSeen_20 (Nat.le_of_ble_eq_true rfl) (Nat.le_of_ble_eq_true rfl)
  · refine lv_i2l (v := r.toInt64) hx hb dL_lastSeen_8 rfl ?_
    refine L_last hC hP hD hS dL_lastSeen_9 (fun H locs hP hD hS => ?_)
    refine lv_goto (tgt := 21) hx hb dL_lastSeen_10 (by decide) ?_
    refine lv_iconst (v := 0) hx hb dL_lastSeen_21 (by decide) ?_
    exact L_iret (z := (g1, vp_updL f 0 r.toInt64)) hC hr hk hP hS hv dL_lastSeen_22 (Nat.le_of_ble_eq_true rfl) (Nat.le_of_ble_eq_true rfl)
def V_L_blocks (x1 : Int32) (g : St) (f : Nat → Int64) (post : Int32 → St × (Nat → Int64) → Prop) : Prop := V_X6_blocks x1 g (fun r g1 => post 0 (g1, vp_updL f 0 (Int32.toInt64 r))) (fun E g1 => (E = "java/lang/IndexOutOfBoundsException" ∧ post 1 (g1, f)) ∨ (E = "java/util/NoSuchElementException" ∧ post 2 (g1, f)))
abbrev rm_L_blocks : Room := { frames := 8, cells := 4, slots := 24, locals := 131 }
set_option maxHeartbeats 4000000 in
set_option maxRecDepth 100000 in
theorem c_L_blocks (l : Launch) (hfl : l.flags = flags0) (D : va_G) (cs az a : Nat → Nat) (ao : Nat) (x1 : Int32) (g : St) (f : Nat → Int64) (post : Int32 → St × (Nat → Int64) → Prop) (hv : V_L_blocks x1 g f post) : uLi l yL_blocks wsL_blocks rm_L_blocks D cs az (wL cs a ao) [.ref (a 0), .int x1, .ref ao] (g, f) post := by
  refine u_ofL9 (cc := cL_blocks) (maxL := 4) (by decide) rfl (Nat.le_of_ble_eq_true rfl) ?_
  intro p e s m args below meth c F ls hC htab hr hk hl hP hD hS
  have hx := hC.1.1; have hb := hC.1.2.1; have hml := hC.1.2.2.1; have hts := hC.1.2.2.2.2
  have hown : s.vm.findClass RL = some m.cls := hC.1.2.2.2.1
  have hl : lv_has ls 4 [(0, .ref (a 0)), (1, .int x1), (2, .ref ao)] := hl
  have hP : va_P D vwCl (gW cs a g ++ wOut cs ao f) s.heap := hP; have hD : va_D F (gW cs a g ++ wOut cs ao f) := hD
  unfold V_L_blocks at hv
  refine lv_aload_n hx hb dL_blocks_0 rfl (lv_at hl 2 rfl) ?_
  refine lv_iconst (v := 0) hx hb dL_blocks_1 (by decide) ?_
  refine lv_aload_n hx hb dL_blocks_2 rfl (lv_at hl 0 rfl) ?_
  refine lv_iload_n hx hb dL_blocks_3 rfl (lv_at hl 1 rfl) ?_
  refine L_callTi hC (c_X6_blocks l hfl D cs az a x1 g _ _ hv) (cwV 1 hts gL_blocks_X6_blocks rfl rfl rfl (by decide +kernel) ⟨Nat.le_of_ble_eq_true rfl, Nat.le_of_ble_eq_true rfl⟩) rfl hl rfl (Nat.le_of_ble_eq_true rfl) dL_blocks_4 hP hD hS (Nat.le_of_ble_eq_true rfl) (Nat.le_of_ble_eq_true rfl) (fun E ce q9 g1 H locs hv hP hD hS e1 e2 e3 => ?_) (fun r g1 H locs hv hP hD hS => ?_)
  · rcases hv with ⟨hEq, hv⟩ | ⟨hEq, hv⟩
    · subst hEq
      refine vx_catch (name := "java/lang/IndexOutOfBoundsException") hown (tableOf []) ⟨0, 9, 12, 19⟩ (tableOf [(0, 9, 15, 64)]) (htab.trans rfl) (fun _ h => absurd h List.not_mem_nil) (by decide) (by decide) (hts (.classLink RL 19 "java/lang/IndexOutOfBoundsException") (List.mem_of_getElem? (i := 1) rfl)) (va_Nw.use rfl (hC.2.2.2.2.2.2.2.2.2.1 (.castable "java/lang/IndexOutOfBoundsException" "java/lang/IndexOutOfBoundsException") (List.mem_of_getElem? (i := 5) rfl))) e1 e2 e3 ?_
      refine lv_astore_n (lv' := [(3, .ref q9), (0, .ref (a 0)), (1, .int x1), (2, .ref ao)]) hx hb dL_blocks_12 rfl hl (by decide) rfl (fun ls hl => ?_)
      refine lv_iconst (v := 1) hx hb dL_blocks_13 (by decide) ?_
      exact L_iret (z := (g1, f)) hC hr hk hP hS hv dL_blocks_14 (Nat.le_of_ble_eq_true rfl) (Nat.le_of_ble_eq_true rfl)
    · subst hEq
      refine vx_catch (name := "java/util/NoSuchElementException") hown (tableOf [(0, 9, 12, 19)]) ⟨0, 9, 15, 64⟩ (tableOf []) (htab.trans rfl) (List.forall_mem_cons.mpr ⟨Or.inr ⟨by decide, "java/lang/IndexOutOfBoundsException", hts (.classLink RL 19 "java/lang/IndexOutOfBoundsException") (List.mem_of_getElem? (i := 1) rfl), hC.2.2.2.2.2.2.2.2.2.2 _ (List.mem_of_getElem? (i := 27) rfl)⟩, (fun _ h => absurd h List.not_mem_nil)⟩) (by decide) (by decide) (hts (.classLink RL 64 "java/util/NoSuchElementException") (List.mem_of_getElem? (i := 2) rfl)) (va_Nw.use rfl (hC.2.2.2.2.2.2.2.2.2.1 (.castable "java/util/NoSuchElementException" "java/util/NoSuchElementException") (List.mem_of_getElem? (i := 8) rfl))) e1 e2 e3 ?_
      refine lv_astore_n (lv' := [(3, .ref q9), (0, .ref (a 0)), (1, .int x1), (2, .ref ao)]) hx hb dL_blocks_15 rfl hl (by decide) rfl (fun ls hl => ?_)
      refine lv_iconst (v := 2) hx hb dL_blocks_16 (by decide) ?_
      exact L_iret (z := (g1, f)) hC hr hk hP hS hv dL_blocks_17 (Nat.le_of_ble_eq_true rfl) (Nat.le_of_ble_eq_true rfl)
  · refine lv_i2l (v := r.toInt64) hx hb dL_blocks_7 rfl ?_
    refine L_last hC hP hD hS dL_blocks_8 (fun H locs hP hD hS => ?_)
    refine lv_goto (tgt := 18) hx hb dL_blocks_9 (by decide) ?_
    refine lv_iconst (v := 0) hx hb dL_blocks_18 (by decide) ?_
    exact L_iret (z := (g1, vp_updL f 0 r.toInt64)) hC hr hk hP hS hv dL_blocks_19 (Nat.le_of_ble_eq_true rfl) (Nat.le_of_ble_eq_true rfl)
def V_L_breakBlock (x1 : Int32) (x2 : Int32) (g : St) (f : Nat → Int64) (post : Int32 → St × (Nat → Int64) → Prop) : Prop := V_X6_breakBlock x1 x2 g (fun r g1 => (r = 0 → post 0 (g1, vp_updL f 0 0)) ∧ (¬ r = 0 → post 0 (g1, vp_updL f 0 1))) (fun E g1 => (E = "java/lang/IndexOutOfBoundsException" ∧ post 1 (g1, f)) ∨ (E = "java/util/NoSuchElementException" ∧ post 2 (g1, f)))
abbrev rm_L_breakBlock : Room := { frames := 8, cells := 4, slots := 24, locals := 133 }
set_option maxHeartbeats 4000000 in
set_option maxRecDepth 100000 in
theorem c_L_breakBlock (l : Launch) (hfl : l.flags = flags0) (D : va_G) (cs az a : Nat → Nat) (ao : Nat) (x1 : Int32) (x2 : Int32) (g : St) (f : Nat → Int64) (post : Int32 → St × (Nat → Int64) → Prop) (hv : V_L_breakBlock x1 x2 g f post) : uLi l yL_breakBlock wsL_breakBlock rm_L_breakBlock D cs az (wL cs a ao) [.ref (a 0), .int x1, .int x2, .ref ao] (g, f) post := by
  refine u_ofL9 (cc := cL_breakBlock) (maxL := 5) (by decide) rfl (Nat.le_of_ble_eq_true rfl) ?_
  intro p e s m args below meth c F ls hC htab hr hk hl hP hD hS
  have hx := hC.1.1; have hb := hC.1.2.1; have hml := hC.1.2.2.1; have hts := hC.1.2.2.2.2
  have hown : s.vm.findClass RL = some m.cls := hC.1.2.2.2.1
  have hl : lv_has ls 5 [(0, .ref (a 0)), (1, .int x1), (2, .int x2), (3, .ref ao)] := hl
  have hP : va_P D vwCl (gW cs a g ++ wOut cs ao f) s.heap := hP; have hD : va_D F (gW cs a g ++ wOut cs ao f) := hD
  unfold V_L_breakBlock at hv
  refine lv_aload_n hx hb dL_breakBlock_0 rfl (lv_at hl 3 rfl) ?_
  refine lv_iconst (v := 0) hx hb dL_breakBlock_1 (by decide) ?_
  refine lv_aload_n hx hb dL_breakBlock_2 rfl (lv_at hl 0 rfl) ?_
  refine lv_iload_n hx hb dL_breakBlock_3 rfl (lv_at hl 1 rfl) ?_
  refine lv_iload_n hx hb dL_breakBlock_4 rfl (lv_at hl 2 rfl) ?_
  refine L_callTi hC (c_X6_breakBlock l hfl D cs az a x1 x2 g _ _ hv) (cwV 2 hts gL_breakBlock_X6_breakBlock rfl rfl rfl (by decide +kernel) ⟨Nat.le_of_ble_eq_true rfl, Nat.le_of_ble_eq_true rfl⟩) rfl hl rfl (Nat.le_of_ble_eq_true rfl) dL_breakBlock_5 hP hD hS (Nat.le_of_ble_eq_true rfl) (Nat.le_of_ble_eq_true rfl) (fun E ce q9 g1 H locs hv hP hD hS e1 e2 e3 => ?_) (fun r g1 H locs hv hP hD hS => ?_)
  · rcases hv with ⟨hEq, hv⟩ | ⟨hEq, hv⟩
    · subst hEq
      refine vx_catch (name := "java/lang/IndexOutOfBoundsException") hown (tableOf []) ⟨0, 17, 20, 19⟩ (tableOf [(0, 17, 24, 64)]) (htab.trans rfl) (fun _ h => absurd h List.not_mem_nil) (by decide) (by decide) (hts (.classLink RL 19 "java/lang/IndexOutOfBoundsException") (List.mem_of_getElem? (i := 1) rfl)) (va_Nw.use rfl (hC.2.2.2.2.2.2.2.2.2.1 (.castable "java/lang/IndexOutOfBoundsException" "java/lang/IndexOutOfBoundsException") (List.mem_of_getElem? (i := 5) rfl))) e1 e2 e3 ?_
      refine lv_astore (lv' := [(4, .ref q9), (0, .ref (a 0)), (1, .int x1), (2, .int x2), (3, .ref ao)]) hx hb dL_breakBlock_20 hl (by decide) rfl (fun ls hl => ?_)
      refine lv_iconst (v := 1) hx hb dL_breakBlock_22 (by decide) ?_
      exact L_iret (z := (g1, f)) hC hr hk hP hS hv dL_breakBlock_23 (Nat.le_of_ble_eq_true rfl) (Nat.le_of_ble_eq_true rfl)
    · subst hEq
      refine vx_catch (name := "java/util/NoSuchElementException") hown (tableOf [(0, 17, 20, 19)]) ⟨0, 17, 24, 64⟩ (tableOf []) (htab.trans rfl) (List.forall_mem_cons.mpr ⟨Or.inr ⟨by decide, "java/lang/IndexOutOfBoundsException", hts (.classLink RL 19 "java/lang/IndexOutOfBoundsException") (List.mem_of_getElem? (i := 1) rfl), hC.2.2.2.2.2.2.2.2.2.2 _ (List.mem_of_getElem? (i := 27) rfl)⟩, (fun _ h => absurd h List.not_mem_nil)⟩) (by decide) (by decide) (hts (.classLink RL 64 "java/util/NoSuchElementException") (List.mem_of_getElem? (i := 2) rfl)) (va_Nw.use rfl (hC.2.2.2.2.2.2.2.2.2.1 (.castable "java/util/NoSuchElementException" "java/util/NoSuchElementException") (List.mem_of_getElem? (i := 8) rfl))) e1 e2 e3 ?_
      refine lv_astore (lv' := [(4, .ref q9), (0, .ref (a 0)), (1, .int x1), (2, .int x2), (3, .ref ao)]) hx hb dL_breakBlock_24 hl (by decide) rfl (fun ls hl => ?_)
      refine lv_iconst (v := 2) hx hb dL_breakBlock_26 (by decide) ?_
      exact L_iret (z := (g1, f)) hC hr hk hP hS hv dL_breakBlock_27 (Nat.le_of_ble_eq_true rfl) (Nat.le_of_ble_eq_true rfl)
  · refine lv_if_eq (tgt := 15) hx hb dL_breakBlock_8 (by decide) (fun c => ?_) (fun c => ?_)
    · have hv := hv.1 c
      refine lv_lconst (v := 0) hx hb dL_breakBlock_15 (by decide) ?_
      refine L_last hC hP hD hS dL_breakBlock_16 (fun H locs hP hD hS => ?_)
      refine lv_goto (tgt := 28) hx hb dL_breakBlock_17 (by decide) ?_
      refine lv_iconst (v := 0) hx hb dL_breakBlock_28 (by decide) ?_
      exact L_iret (z := (g1, vp_updL f 0 0)) hC hr hk hP hS hv dL_breakBlock_29 (Nat.le_of_ble_eq_true rfl) (Nat.le_of_ble_eq_true rfl)
    · have hv := hv.2 c
      refine lv_lconst (v := 1) hx hb dL_breakBlock_11 (by decide) ?_
      refine lv_goto (tgt := 16) hx hb dL_breakBlock_12 (by decide) ?_
      refine L_last hC hP hD hS dL_breakBlock_16 (fun H locs hP hD hS => ?_)
      refine lv_goto (tgt := 28) hx hb dL_breakBlock_17 (by decide) ?_
      refine lv_iconst (v := 0) hx hb dL_breakBlock_28 (by decide) ?_
      exact L_iret (z := (g1, vp_updL f 0 1)) hC hr hk hP hS hv dL_breakBlock_29 (Nat.le_of_ble_eq_true rfl) (Nat.le_of_ble_eq_true rfl)
def V_L_savedAt (x1 : Int32) (x2 : Int32) (g : St) (f : Nat → Int64) (post : Int32 → St × (Nat → Int64) → Prop) : Prop := V_X6_savedAt x1 x2 g (fun r g1 => post 0 (g1, vp_updL f 0 (Int32.toInt64 r))) (fun E g1 => (E = "java/lang/IndexOutOfBoundsException" ∧ post 1 (g1, f)) ∨ (E = "java/util/NoSuchElementException" ∧ post 2 (g1, f)) ∨ (E = "java/lang/UnsupportedOperationException" ∧ post 3 (g1, f)))
abbrev rm_L_savedAt : Room := { frames := 8, cells := 4, slots := 24, locals := 132 }
set_option maxHeartbeats 4000000 in
set_option maxRecDepth 100000 in
theorem c_L_savedAt (l : Launch) (hfl : l.flags = flags0) (D : va_G) (cs az a : Nat → Nat) (ao : Nat) (x1 : Int32) (x2 : Int32) (g : St) (f : Nat → Int64) (post : Int32 → St × (Nat → Int64) → Prop) (hv : V_L_savedAt x1 x2 g f post) : uLi l yL_savedAt wsL_savedAt rm_L_savedAt D cs az (wL cs a ao) [.ref (a 0), .int x1, .int x2, .ref ao] (g, f) post := by
  refine u_ofL9 (cc := cL_savedAt) (maxL := 5) (by decide) rfl (Nat.le_of_ble_eq_true rfl) ?_
  intro p e s m args below meth c F ls hC htab hr hk hl hP hD hS
  have hx := hC.1.1; have hb := hC.1.2.1; have hml := hC.1.2.2.1; have hts := hC.1.2.2.2.2
  have hown : s.vm.findClass RL = some m.cls := hC.1.2.2.2.1
  have hl : lv_has ls 5 [(0, .ref (a 0)), (1, .int x1), (2, .int x2), (3, .ref ao)] := hl
  have hP : va_P D vwCl (gW cs a g ++ wOut cs ao f) s.heap := hP; have hD : va_D F (gW cs a g ++ wOut cs ao f) := hD
  unfold V_L_savedAt at hv
  refine lv_aload_n hx hb dL_savedAt_0 rfl (lv_at hl 3 rfl) ?_
  refine lv_iconst (v := 0) hx hb dL_savedAt_1 (by decide) ?_
  refine lv_aload_n hx hb dL_savedAt_2 rfl (lv_at hl 0 rfl) ?_
  refine lv_iload_n hx hb dL_savedAt_3 rfl (lv_at hl 1 rfl) ?_
  refine lv_iload_n hx hb dL_savedAt_4 rfl (lv_at hl 2 rfl) ?_
  refine L_callTi hC (c_X6_savedAt l hfl D cs az a x1 x2 g _ _ hv) (cwV 2 hts gL_savedAt_X6_savedAt rfl rfl rfl (by decide +kernel) ⟨Nat.le_of_ble_eq_true rfl, Nat.le_of_ble_eq_true rfl⟩) rfl hl rfl (Nat.le_of_ble_eq_true rfl) dL_savedAt_5 hP hD hS (Nat.le_of_ble_eq_true rfl) (Nat.le_of_ble_eq_true rfl) (fun E ce q9 g1 H locs hv hP hD hS e1 e2 e3 => ?_) (fun r g1 H locs hv hP hD hS => ?_)
  · rcases hv with ⟨hEq, hv⟩ | ⟨hEq, hv⟩ | ⟨hEq, hv⟩
    · subst hEq
      refine vx_catch (name := "java/lang/IndexOutOfBoundsException") hown (tableOf []) ⟨0, 10, 13, 19⟩ (tableOf [(0, 10, 17, 64), (0, 10, 21, 27)]) (htab.trans rfl) (fun _ h => absurd h List.not_mem_nil) (by decide) (by decide) (hts (.classLink RL 19 "java/lang/IndexOutOfBoundsException") (List.mem_of_getElem? (i := 1) rfl)) (va_Nw.use rfl (hC.2.2.2.2.2.2.2.2.2.1 (.castable "java/lang/IndexOutOfBoundsException" "java/lang/IndexOutOfBoundsException") (List.mem_of_getElem? (i := 5) rfl))) e1 e2 e3 ?_
      refine lv_astore (lv' := [(4, .ref q9), (0, .ref (a 0)), (1, .int x1), (2, .int x2), (3, .ref ao)]) hx hb dL_savedAt_13 hl (by decide) rfl (fun ls hl => ?_)
      refine lv_iconst (v := 1) hx hb dL_savedAt_15 (by decide) ?_
      exact L_iret (z := (g1, f)) hC hr hk hP hS hv dL_savedAt_16 (Nat.le_of_ble_eq_true rfl) (Nat.le_of_ble_eq_true rfl)
    · subst hEq
      refine vx_catch (name := "java/util/NoSuchElementException") hown (tableOf [(0, 10, 13, 19)]) ⟨0, 10, 17, 64⟩ (tableOf [(0, 10, 21, 27)]) (htab.trans rfl) (List.forall_mem_cons.mpr ⟨Or.inr ⟨by decide, "java/lang/IndexOutOfBoundsException", hts (.classLink RL 19 "java/lang/IndexOutOfBoundsException") (List.mem_of_getElem? (i := 1) rfl), hC.2.2.2.2.2.2.2.2.2.2 _ (List.mem_of_getElem? (i := 27) rfl)⟩, (fun _ h => absurd h List.not_mem_nil)⟩) (by decide) (by decide) (hts (.classLink RL 64 "java/util/NoSuchElementException") (List.mem_of_getElem? (i := 2) rfl)) (va_Nw.use rfl (hC.2.2.2.2.2.2.2.2.2.1 (.castable "java/util/NoSuchElementException" "java/util/NoSuchElementException") (List.mem_of_getElem? (i := 8) rfl))) e1 e2 e3 ?_
      refine lv_astore (lv' := [(4, .ref q9), (0, .ref (a 0)), (1, .int x1), (2, .int x2), (3, .ref ao)]) hx hb dL_savedAt_17 hl (by decide) rfl (fun ls hl => ?_)
      refine lv_iconst (v := 2) hx hb dL_savedAt_19 (by decide) ?_
      exact L_iret (z := (g1, f)) hC hr hk hP hS hv dL_savedAt_20 (Nat.le_of_ble_eq_true rfl) (Nat.le_of_ble_eq_true rfl)
    · subst hEq
      refine vx_catch (name := "java/lang/UnsupportedOperationException") hown (tableOf [(0, 10, 13, 19), (0, 10, 17, 64)]) ⟨0, 10, 21, 27⟩ (tableOf []) (htab.trans rfl) (List.forall_mem_cons.mpr ⟨Or.inr ⟨by decide, "java/lang/IndexOutOfBoundsException", hts (.classLink RL 19 "java/lang/IndexOutOfBoundsException") (List.mem_of_getElem? (i := 1) rfl), hC.2.2.2.2.2.2.2.2.2.2 _ (List.mem_of_getElem? (i := 22) rfl)⟩, (List.forall_mem_cons.mpr ⟨Or.inr ⟨by decide, "java/util/NoSuchElementException", hts (.classLink RL 64 "java/util/NoSuchElementException") (List.mem_of_getElem? (i := 2) rfl), hC.2.2.2.2.2.2.2.2.2.2 _ (List.mem_of_getElem? (i := 24) rfl)⟩, (fun _ h => absurd h List.not_mem_nil)⟩)⟩) (by decide) (by decide) (hts (.classLink RL 27 "java/lang/UnsupportedOperationException") (List.mem_of_getElem? (i := 3) rfl)) (va_Nw.use rfl (hC.2.2.2.2.2.2.2.2.2.1 (.castable "java/lang/UnsupportedOperationException" "java/lang/UnsupportedOperationException") (List.mem_of_getElem? (i := 7) rfl))) e1 e2 e3 ?_
      refine lv_astore (lv' := [(4, .ref q9), (0, .ref (a 0)), (1, .int x1), (2, .int x2), (3, .ref ao)]) hx hb dL_savedAt_21 hl (by decide) rfl (fun ls hl => ?_)
      refine lv_iconst (v := 3) hx hb dL_savedAt_23 (by decide) ?_
      exact L_iret (z := (g1, f)) hC hr hk hP hS hv dL_savedAt_24 (Nat.le_of_ble_eq_true rfl) (Nat.le_of_ble_eq_true rfl)
  · refine lv_i2l (v := r.toInt64) hx hb dL_savedAt_8 rfl ?_
    refine L_last hC hP hD hS dL_savedAt_9 (fun H locs hP hD hS => ?_)
    refine lv_goto (tgt := 25) hx hb dL_savedAt_10 (by decide) ?_
    refine lv_iconst (v := 0) hx hb dL_savedAt_25 (by decide) ?_
    exact L_iret (z := (g1, vp_updL f 0 r.toInt64)) hC hr hk hP hS hv dL_savedAt_26 (Nat.le_of_ble_eq_true rfl) (Nat.le_of_ble_eq_true rfl)
def V_L_repair (x1 : Int32) (g : St) (f : Nat → Int64) (post : Int32 → St × (Nat → Int64) → Prop) : Prop := V_X6_repair x1 g (fun r g1 => post 0 (g1, vp_updL f 0 (Int32.toInt64 r))) (fun E g1 => (E = "java/lang/IndexOutOfBoundsException" ∧ post 1 (g1, f)) ∨ (E = "java/util/NoSuchElementException" ∧ post 2 (g1, f)))
abbrev rm_L_repair : Room := { frames := 8, cells := 4, slots := 24, locals := 133 }
set_option maxHeartbeats 4000000 in
set_option maxRecDepth 100000 in
theorem c_L_repair (l : Launch) (hfl : l.flags = flags0) (D : va_G) (cs az a : Nat → Nat) (ao : Nat) (x1 : Int32) (g : St) (f : Nat → Int64) (post : Int32 → St × (Nat → Int64) → Prop) (hv : V_L_repair x1 g f post) : uLi l yL_repair wsL_repair rm_L_repair D cs az (wL cs a ao) [.ref (a 0), .int x1, .ref ao] (g, f) post := by
  refine u_ofL9 (cc := cL_repair) (maxL := 4) (by decide) rfl (Nat.le_of_ble_eq_true rfl) ?_
  intro p e s m args below meth c F ls hC htab hr hk hl hP hD hS
  have hx := hC.1.1; have hb := hC.1.2.1; have hml := hC.1.2.2.1; have hts := hC.1.2.2.2.2
  have hown : s.vm.findClass RL = some m.cls := hC.1.2.2.2.1
  have hl : lv_has ls 4 [(0, .ref (a 0)), (1, .int x1), (2, .ref ao)] := hl
  have hP : va_P D vwCl (gW cs a g ++ wOut cs ao f) s.heap := hP; have hD : va_D F (gW cs a g ++ wOut cs ao f) := hD
  unfold V_L_repair at hv
  refine lv_aload_n hx hb dL_repair_0 rfl (lv_at hl 2 rfl) ?_
  refine lv_iconst (v := 0) hx hb dL_repair_1 (by decide) ?_
  refine lv_aload_n hx hb dL_repair_2 rfl (lv_at hl 0 rfl) ?_
  refine lv_iload_n hx hb dL_repair_3 rfl (lv_at hl 1 rfl) ?_
  refine L_callTi hC (c_X6_repair l hfl D cs az a x1 g _ _ hv) (cwV 1 hts gL_repair_X6_repair rfl rfl rfl (by decide +kernel) ⟨Nat.le_of_ble_eq_true rfl, Nat.le_of_ble_eq_true rfl⟩) rfl hl rfl (Nat.le_of_ble_eq_true rfl) dL_repair_4 hP hD hS (Nat.le_of_ble_eq_true rfl) (Nat.le_of_ble_eq_true rfl) (fun E ce q9 g1 H locs hv hP hD hS e1 e2 e3 => ?_) (fun r g1 H locs hv hP hD hS => ?_)
  · rcases hv with ⟨hEq, hv⟩ | ⟨hEq, hv⟩
    · subst hEq
      refine vx_catch (name := "java/lang/IndexOutOfBoundsException") hown (tableOf []) ⟨0, 9, 12, 19⟩ (tableOf [(0, 9, 15, 64)]) (htab.trans rfl) (fun _ h => absurd h List.not_mem_nil) (by decide) (by decide) (hts (.classLink RL 19 "java/lang/IndexOutOfBoundsException") (List.mem_of_getElem? (i := 1) rfl)) (va_Nw.use rfl (hC.2.2.2.2.2.2.2.2.2.1 (.castable "java/lang/IndexOutOfBoundsException" "java/lang/IndexOutOfBoundsException") (List.mem_of_getElem? (i := 5) rfl))) e1 e2 e3 ?_
      refine lv_astore_n (lv' := [(3, .ref q9), (0, .ref (a 0)), (1, .int x1), (2, .ref ao)]) hx hb dL_repair_12 rfl hl (by decide) rfl (fun ls hl => ?_)
      refine lv_iconst (v := 1) hx hb dL_repair_13 (by decide) ?_
      exact L_iret (z := (g1, f)) hC hr hk hP hS hv dL_repair_14 (Nat.le_of_ble_eq_true rfl) (Nat.le_of_ble_eq_true rfl)
    · subst hEq
      refine vx_catch (name := "java/util/NoSuchElementException") hown (tableOf [(0, 9, 12, 19)]) ⟨0, 9, 15, 64⟩ (tableOf []) (htab.trans rfl) (List.forall_mem_cons.mpr ⟨Or.inr ⟨by decide, "java/lang/IndexOutOfBoundsException", hts (.classLink RL 19 "java/lang/IndexOutOfBoundsException") (List.mem_of_getElem? (i := 1) rfl), hC.2.2.2.2.2.2.2.2.2.2 _ (List.mem_of_getElem? (i := 27) rfl)⟩, (fun _ h => absurd h List.not_mem_nil)⟩) (by decide) (by decide) (hts (.classLink RL 64 "java/util/NoSuchElementException") (List.mem_of_getElem? (i := 2) rfl)) (va_Nw.use rfl (hC.2.2.2.2.2.2.2.2.2.1 (.castable "java/util/NoSuchElementException" "java/util/NoSuchElementException") (List.mem_of_getElem? (i := 8) rfl))) e1 e2 e3 ?_
      refine lv_astore_n (lv' := [(3, .ref q9), (0, .ref (a 0)), (1, .int x1), (2, .ref ao)]) hx hb dL_repair_15 rfl hl (by decide) rfl (fun ls hl => ?_)
      refine lv_iconst (v := 2) hx hb dL_repair_16 (by decide) ?_
      exact L_iret (z := (g1, f)) hC hr hk hP hS hv dL_repair_17 (Nat.le_of_ble_eq_true rfl) (Nat.le_of_ble_eq_true rfl)
  · refine lv_i2l (v := r.toInt64) hx hb dL_repair_7 rfl ?_
    refine L_last hC hP hD hS dL_repair_8 (fun H locs hP hD hS => ?_)
    refine lv_goto (tgt := 18) hx hb dL_repair_9 (by decide) ?_
    refine lv_iconst (v := 0) hx hb dL_repair_18 (by decide) ?_
    exact L_iret (z := (g1, vp_updL f 0 r.toInt64)) hC hr hk hP hS hv dL_repair_19 (Nat.le_of_ble_eq_true rfl) (Nat.le_of_ble_eq_true rfl)
def V_L_load (x1 : Int32) (g : St) (f : Nat → Int64) (post : Int32 → St × (Nat → Int64) → Prop) : Prop := V_X6_load x1 g (fun r g1 => post 0 (g1, vp_updL f 0 (Int32.toInt64 r))) (fun E g1 => (E = "java/lang/IndexOutOfBoundsException" ∧ post 1 (g1, f)) ∨ (E = "java/util/NoSuchElementException" ∧ post 2 (g1, f)) ∨ (E = "java/lang/UnsupportedOperationException" ∧ post 3 (g1, f)))
abbrev rm_L_load : Room := { frames := 8, cells := 4, slots := 24, locals := 131 }
set_option maxHeartbeats 4000000 in
set_option maxRecDepth 100000 in
theorem c_L_load (l : Launch) (hfl : l.flags = flags0) (D : va_G) (cs az a : Nat → Nat) (ao : Nat) (x1 : Int32) (g : St) (f : Nat → Int64) (post : Int32 → St × (Nat → Int64) → Prop) (hv : V_L_load x1 g f post) : uLi l yL_load wsL_load rm_L_load D cs az (wL cs a ao) [.ref (a 0), .int x1, .ref ao] (g, f) post := by
  refine u_ofL9 (cc := cL_load) (maxL := 4) (by decide) rfl (Nat.le_of_ble_eq_true rfl) ?_
  intro p e s m args below meth c F ls hC htab hr hk hl hP hD hS
  have hx := hC.1.1; have hb := hC.1.2.1; have hml := hC.1.2.2.1; have hts := hC.1.2.2.2.2
  have hown : s.vm.findClass RL = some m.cls := hC.1.2.2.2.1
  have hl : lv_has ls 4 [(0, .ref (a 0)), (1, .int x1), (2, .ref ao)] := hl
  have hP : va_P D vwCl (gW cs a g ++ wOut cs ao f) s.heap := hP; have hD : va_D F (gW cs a g ++ wOut cs ao f) := hD
  unfold V_L_load at hv
  refine lv_aload_n hx hb dL_load_0 rfl (lv_at hl 2 rfl) ?_
  refine lv_iconst (v := 0) hx hb dL_load_1 (by decide) ?_
  refine lv_aload_n hx hb dL_load_2 rfl (lv_at hl 0 rfl) ?_
  refine lv_iload_n hx hb dL_load_3 rfl (lv_at hl 1 rfl) ?_
  refine L_callTi hC (c_X6_load l hfl D cs az a x1 g _ _ hv) (cwV 1 hts gL_load_X6_load rfl rfl rfl (by decide +kernel) ⟨Nat.le_of_ble_eq_true rfl, Nat.le_of_ble_eq_true rfl⟩) rfl hl rfl (Nat.le_of_ble_eq_true rfl) dL_load_4 hP hD hS (Nat.le_of_ble_eq_true rfl) (Nat.le_of_ble_eq_true rfl) (fun E ce q9 g1 H locs hv hP hD hS e1 e2 e3 => ?_) (fun r g1 H locs hv hP hD hS => ?_)
  · rcases hv with ⟨hEq, hv⟩ | ⟨hEq, hv⟩ | ⟨hEq, hv⟩
    · subst hEq
      refine vx_catch (name := "java/lang/IndexOutOfBoundsException") hown (tableOf []) ⟨0, 9, 12, 19⟩ (tableOf [(0, 9, 15, 64), (0, 9, 18, 27)]) (htab.trans rfl) (fun _ h => absurd h List.not_mem_nil) (by decide) (by decide) (hts (.classLink RL 19 "java/lang/IndexOutOfBoundsException") (List.mem_of_getElem? (i := 1) rfl)) (va_Nw.use rfl (hC.2.2.2.2.2.2.2.2.2.1 (.castable "java/lang/IndexOutOfBoundsException" "java/lang/IndexOutOfBoundsException") (List.mem_of_getElem? (i := 5) rfl))) e1 e2 e3 ?_
      refine lv_astore_n (lv' := [(3, .ref q9), (0, .ref (a 0)), (1, .int x1), (2, .ref ao)]) hx hb dL_load_12 rfl hl (by decide) rfl (fun ls hl => ?_)
      refine lv_iconst (v := 1) hx hb dL_load_13 (by decide) ?_
      exact L_iret (z := (g1, f)) hC hr hk hP hS hv dL_load_14 (Nat.le_of_ble_eq_true rfl) (Nat.le_of_ble_eq_true rfl)
    · subst hEq
      refine vx_catch (name := "java/util/NoSuchElementException") hown (tableOf [(0, 9, 12, 19)]) ⟨0, 9, 15, 64⟩ (tableOf [(0, 9, 18, 27)]) (htab.trans rfl) (List.forall_mem_cons.mpr ⟨Or.inr ⟨by decide, "java/lang/IndexOutOfBoundsException", hts (.classLink RL 19 "java/lang/IndexOutOfBoundsException") (List.mem_of_getElem? (i := 1) rfl), hC.2.2.2.2.2.2.2.2.2.2 _ (List.mem_of_getElem? (i := 27) rfl)⟩, (fun _ h => absurd h List.not_mem_nil)⟩) (by decide) (by decide) (hts (.classLink RL 64 "java/util/NoSuchElementException") (List.mem_of_getElem? (i := 2) rfl)) (va_Nw.use rfl (hC.2.2.2.2.2.2.2.2.2.1 (.castable "java/util/NoSuchElementException" "java/util/NoSuchElementException") (List.mem_of_getElem? (i := 8) rfl))) e1 e2 e3 ?_
      refine lv_astore_n (lv' := [(3, .ref q9), (0, .ref (a 0)), (1, .int x1), (2, .ref ao)]) hx hb dL_load_15 rfl hl (by decide) rfl (fun ls hl => ?_)
      refine lv_iconst (v := 2) hx hb dL_load_16 (by decide) ?_
      exact L_iret (z := (g1, f)) hC hr hk hP hS hv dL_load_17 (Nat.le_of_ble_eq_true rfl) (Nat.le_of_ble_eq_true rfl)
    · subst hEq
      refine vx_catch (name := "java/lang/UnsupportedOperationException") hown (tableOf [(0, 9, 12, 19), (0, 9, 15, 64)]) ⟨0, 9, 18, 27⟩ (tableOf []) (htab.trans rfl) (List.forall_mem_cons.mpr ⟨Or.inr ⟨by decide, "java/lang/IndexOutOfBoundsException", hts (.classLink RL 19 "java/lang/IndexOutOfBoundsException") (List.mem_of_getElem? (i := 1) rfl), hC.2.2.2.2.2.2.2.2.2.2 _ (List.mem_of_getElem? (i := 22) rfl)⟩, (List.forall_mem_cons.mpr ⟨Or.inr ⟨by decide, "java/util/NoSuchElementException", hts (.classLink RL 64 "java/util/NoSuchElementException") (List.mem_of_getElem? (i := 2) rfl), hC.2.2.2.2.2.2.2.2.2.2 _ (List.mem_of_getElem? (i := 24) rfl)⟩, (fun _ h => absurd h List.not_mem_nil)⟩)⟩) (by decide) (by decide) (hts (.classLink RL 27 "java/lang/UnsupportedOperationException") (List.mem_of_getElem? (i := 3) rfl)) (va_Nw.use rfl (hC.2.2.2.2.2.2.2.2.2.1 (.castable "java/lang/UnsupportedOperationException" "java/lang/UnsupportedOperationException") (List.mem_of_getElem? (i := 7) rfl))) e1 e2 e3 ?_
      refine lv_astore_n (lv' := [(3, .ref q9), (0, .ref (a 0)), (1, .int x1), (2, .ref ao)]) hx hb dL_load_18 rfl hl (by decide) rfl (fun ls hl => ?_)
      refine lv_iconst (v := 3) hx hb dL_load_19 (by decide) ?_
      exact L_iret (z := (g1, f)) hC hr hk hP hS hv dL_load_20 (Nat.le_of_ble_eq_true rfl) (Nat.le_of_ble_eq_true rfl)
  · refine lv_i2l (v := r.toInt64) hx hb dL_load_7 rfl ?_
    refine L_last hC hP hD hS dL_load_8 (fun H locs hP hD hS => ?_)
    refine lv_goto (tgt := 21) hx hb dL_load_9 (by decide) ?_
    refine lv_iconst (v := 0) hx hb dL_load_21 (by decide) ?_
    exact L_iret (z := (g1, vp_updL f 0 r.toInt64)) hC hr hk hP hS hv dL_load_22 (Nat.le_of_ble_eq_true rfl) (Nat.le_of_ble_eq_true rfl)
def V_L_allies (x1 : Int32) (g : St) (f : Nat → Int64) (post : Int32 → St × (Nat → Int64) → Prop) : Prop := V_X6_allies x1 g (fun r g1 => post 0 (g1, vp_updL f 0 (Int32.toInt64 r))) (fun E g1 => (E = "java/lang/IndexOutOfBoundsException" ∧ post 1 (g1, f)) ∨ (E = "java/util/NoSuchElementException" ∧ post 2 (g1, f)))
abbrev rm_L_allies : Room := { frames := 8, cells := 4, slots := 24, locals := 131 }
set_option maxHeartbeats 4000000 in
set_option maxRecDepth 100000 in
theorem c_L_allies (l : Launch) (hfl : l.flags = flags0) (D : va_G) (cs az a : Nat → Nat) (ao : Nat) (x1 : Int32) (g : St) (f : Nat → Int64) (post : Int32 → St × (Nat → Int64) → Prop) (hv : V_L_allies x1 g f post) : uLi l yL_allies wsL_allies rm_L_allies D cs az (wL cs a ao) [.ref (a 0), .int x1, .ref ao] (g, f) post := by
  refine u_ofL9 (cc := cL_allies) (maxL := 4) (by decide) rfl (Nat.le_of_ble_eq_true rfl) ?_
  intro p e s m args below meth c F ls hC htab hr hk hl hP hD hS
  have hx := hC.1.1; have hb := hC.1.2.1; have hml := hC.1.2.2.1; have hts := hC.1.2.2.2.2
  have hown : s.vm.findClass RL = some m.cls := hC.1.2.2.2.1
  have hl : lv_has ls 4 [(0, .ref (a 0)), (1, .int x1), (2, .ref ao)] := hl
  have hP : va_P D vwCl (gW cs a g ++ wOut cs ao f) s.heap := hP; have hD : va_D F (gW cs a g ++ wOut cs ao f) := hD
  unfold V_L_allies at hv
  refine lv_aload_n hx hb dL_allies_0 rfl (lv_at hl 2 rfl) ?_
  refine lv_iconst (v := 0) hx hb dL_allies_1 (by decide) ?_
  refine lv_aload_n hx hb dL_allies_2 rfl (lv_at hl 0 rfl) ?_
  refine lv_iload_n hx hb dL_allies_3 rfl (lv_at hl 1 rfl) ?_
  refine L_callTi hC (c_X6_allies l hfl D cs az a x1 g _ _ hv) (cwV 1 hts gL_allies_X6_allies rfl rfl rfl (by decide +kernel) ⟨Nat.le_of_ble_eq_true rfl, Nat.le_of_ble_eq_true rfl⟩) rfl hl rfl (Nat.le_of_ble_eq_true rfl) dL_allies_4 hP hD hS (Nat.le_of_ble_eq_true rfl) (Nat.le_of_ble_eq_true rfl) (fun E ce q9 g1 H locs hv hP hD hS e1 e2 e3 => ?_) (fun r g1 H locs hv hP hD hS => ?_)
  · rcases hv with ⟨hEq, hv⟩ | ⟨hEq, hv⟩
    · subst hEq
      refine vx_catch (name := "java/lang/IndexOutOfBoundsException") hown (tableOf []) ⟨0, 9, 12, 19⟩ (tableOf [(0, 9, 15, 64)]) (htab.trans rfl) (fun _ h => absurd h List.not_mem_nil) (by decide) (by decide) (hts (.classLink RL 19 "java/lang/IndexOutOfBoundsException") (List.mem_of_getElem? (i := 1) rfl)) (va_Nw.use rfl (hC.2.2.2.2.2.2.2.2.2.1 (.castable "java/lang/IndexOutOfBoundsException" "java/lang/IndexOutOfBoundsException") (List.mem_of_getElem? (i := 5) rfl))) e1 e2 e3 ?_
      refine lv_astore_n (lv' := [(3, .ref q9), (0, .ref (a 0)), (1, .int x1), (2, .ref ao)]) hx hb dL_allies_12 rfl hl (by decide) rfl (fun ls hl => ?_)
      refine lv_iconst (v := 1) hx hb dL_allies_13 (by decide) ?_
      exact L_iret (z := (g1, f)) hC hr hk hP hS hv dL_allies_14 (Nat.le_of_ble_eq_true rfl) (Nat.le_of_ble_eq_true rfl)
    · subst hEq
      refine vx_catch (name := "java/util/NoSuchElementException") hown (tableOf [(0, 9, 12, 19)]) ⟨0, 9, 15, 64⟩ (tableOf []) (htab.trans rfl) (List.forall_mem_cons.mpr ⟨Or.inr ⟨by decide, "java/lang/IndexOutOfBoundsException", hts (.classLink RL 19 "java/lang/IndexOutOfBoundsException") (List.mem_of_getElem? (i := 1) rfl), hC.2.2.2.2.2.2.2.2.2.2 _ (List.mem_of_getElem? (i := 27) rfl)⟩, (fun _ h => absurd h List.not_mem_nil)⟩) (by decide) (by decide) (hts (.classLink RL 64 "java/util/NoSuchElementException") (List.mem_of_getElem? (i := 2) rfl)) (va_Nw.use rfl (hC.2.2.2.2.2.2.2.2.2.1 (.castable "java/util/NoSuchElementException" "java/util/NoSuchElementException") (List.mem_of_getElem? (i := 8) rfl))) e1 e2 e3 ?_
      refine lv_astore_n (lv' := [(3, .ref q9), (0, .ref (a 0)), (1, .int x1), (2, .ref ao)]) hx hb dL_allies_15 rfl hl (by decide) rfl (fun ls hl => ?_)
      refine lv_iconst (v := 2) hx hb dL_allies_16 (by decide) ?_
      exact L_iret (z := (g1, f)) hC hr hk hP hS hv dL_allies_17 (Nat.le_of_ble_eq_true rfl) (Nat.le_of_ble_eq_true rfl)
  · refine lv_i2l (v := r.toInt64) hx hb dL_allies_7 rfl ?_
    refine L_last hC hP hD hS dL_allies_8 (fun H locs hP hD hS => ?_)
    refine lv_goto (tgt := 18) hx hb dL_allies_9 (by decide) ?_
    refine lv_iconst (v := 0) hx hb dL_allies_18 (by decide) ?_
    exact L_iret (z := (g1, vp_updL f 0 r.toInt64)) hC hr hk hP hS hv dL_allies_19 (Nat.le_of_ble_eq_true rfl) (Nat.le_of_ble_eq_true rfl)
def V_L_livingShare  (g : St) (f : Nat → UInt64) (post : Int32 → St × (Nat → UInt64) → Prop) : Prop := V_X6_livingShare  g (fun r g1 => vf_n64 (FP.f2d r) ∧ post 0 (g1, vf_upd f 0 (FP.f2d r))) (fun E g1 => (E = "java/lang/ArithmeticException" ∧ post 1 (g1, f)))
abbrev rm_L_livingShare : Room := { frames := 7, cells := 4, slots := 24, locals := 113 }
set_option maxHeartbeats 4000000 in
set_option maxRecDepth 100000 in
theorem c_L_livingShare (l : Launch) (hfl : l.flags = flags0) (D : va_G) (cs az a : Nat → Nat) (ao : Nat)  (g : St) (f : Nat → UInt64) (post : Int32 → St × (Nat → UInt64) → Prop) (hv : V_L_livingShare  g f post) : uLi l yL_livingShare wsL_livingShare rm_L_livingShare D cs az (wD cs a ao) [.ref (a 0), .ref ao] (g, f) post := by
  refine u_ofL9 (cc := cL_livingShare) (maxL := 3) (by decide) rfl (Nat.le_of_ble_eq_true rfl) ?_
  intro p e s m args below meth c F ls hC htab hr hk hl hP hD hS
  have hx := hC.1.1; have hb := hC.1.2.1; have hml := hC.1.2.2.1; have hts := hC.1.2.2.2.2
  have hown : s.vm.findClass RL = some m.cls := hC.1.2.2.2.1
  have hl : lv_has ls 3 [(0, .ref (a 0)), (1, .ref ao)] := hl
  have hP : va_P D vwCl (gW cs a g ++ wOutD cs ao f) s.heap := hP; have hD : va_D F (gW cs a g ++ wOutD cs ao f) := hD
  unfold V_L_livingShare at hv
  refine lv_aload_n hx hb dL_livingShare_0 rfl (lv_at hl 1 rfl) ?_
  refine lv_iconst (v := 0) hx hb dL_livingShare_1 (by decide) ?_
  refine lv_aload_n hx hb dL_livingShare_2 rfl (lv_at hl 0 rfl) ?_
  refine L_callTf hC (c_X6_livingShare l hfl D cs az a  g _ _ hv) (cwV 0 hts gL_livingShare_X6_livingShare rfl rfl rfl (by decide +kernel) ⟨Nat.le_of_ble_eq_true rfl, Nat.le_of_ble_eq_true rfl⟩) rfl hl rfl (Nat.le_of_ble_eq_true rfl) dL_livingShare_3 hP hD hS (Nat.le_of_ble_eq_true rfl) (Nat.le_of_ble_eq_true rfl) (fun E ce q9 g1 H locs hv hP hD hS e1 e2 e3 => ?_) (fun r g1 H locs hv hP hD hS => ?_)
  · obtain ⟨hEq, hv⟩ := hv
    subst hEq
    refine vx_catch (name := "java/lang/ArithmeticException") hown (tableOf []) ⟨0, 8, 11, 91⟩ (tableOf []) (htab.trans rfl) (fun _ h => absurd h List.not_mem_nil) (by decide) (by decide) (hts (.classLink RL 91 "java/lang/ArithmeticException") (List.mem_of_getElem? (i := 1) rfl)) (va_Nw.use rfl (hC.2.2.2.2.2.2.2.2.2.1 (.castable "java/lang/ArithmeticException" "java/lang/ArithmeticException") (List.mem_of_getElem? (i := 6) rfl))) e1 e2 e3 ?_
    refine lv_astore_n (lv' := [(2, .ref q9), (0, .ref (a 0)), (1, .ref ao)]) hx hb dL_livingShare_11 rfl hl (by decide) rfl (fun ls hl => ?_)
    refine lv_iconst (v := 1) hx hb dL_livingShare_12 (by decide) ?_
    exact L_iret (z := (g1, f)) hC hr hk hP hS hv dL_livingShare_13 (Nat.le_of_ble_eq_true rfl) (Nat.le_of_ble_eq_true rfl)
  · refine lv_f2d hx hb dL_livingShare_6 hv.1 ?_
    have hv := hv.2
    refine L_dast hC hP hD hS dL_livingShare_7 (fun H locs hP hD hS => ?_)
    refine lv_goto (tgt := 14) hx hb dL_livingShare_8 (by decide) ?_
    refine lv_iconst (v := 0) hx hb dL_livingShare_14 (by decide) ?_
    exact L_iret (z := (g1, vf_upd f 0 (FP.f2d r))) hC hr hk hP hS hv dL_livingShare_15 (Nat.le_of_ble_eq_true rfl) (Nat.le_of_ble_eq_true rfl)
def V_L_meanAge  (g : St) (f : Nat → UInt64) (post : Int32 → St × (Nat → UInt64) → Prop) : Prop := V_X6_meanAge  g (fun r g1 => post 0 (g1, vf_upd f 0 r)) (fun E g1 => (E = "java/lang/ArithmeticException" ∧ post 1 (g1, f)))
abbrev rm_L_meanAge : Room := { frames := 7, cells := 4, slots := 24, locals := 116 }
set_option maxHeartbeats 4000000 in
set_option maxRecDepth 100000 in
theorem c_L_meanAge (l : Launch) (hfl : l.flags = flags0) (D : va_G) (cs az a : Nat → Nat) (ao : Nat)  (g : St) (f : Nat → UInt64) (post : Int32 → St × (Nat → UInt64) → Prop) (hv : V_L_meanAge  g f post) : uLi l yL_meanAge wsL_meanAge rm_L_meanAge D cs az (wD cs a ao) [.ref (a 0), .ref ao] (g, f) post := by
  refine u_ofL9 (cc := cL_meanAge) (maxL := 3) (by decide) rfl (Nat.le_of_ble_eq_true rfl) ?_
  intro p e s m args below meth c F ls hC htab hr hk hl hP hD hS
  have hx := hC.1.1; have hb := hC.1.2.1; have hml := hC.1.2.2.1; have hts := hC.1.2.2.2.2
  have hown : s.vm.findClass RL = some m.cls := hC.1.2.2.2.1
  have hl : lv_has ls 3 [(0, .ref (a 0)), (1, .ref ao)] := hl
  have hP : va_P D vwCl (gW cs a g ++ wOutD cs ao f) s.heap := hP; have hD : va_D F (gW cs a g ++ wOutD cs ao f) := hD
  unfold V_L_meanAge at hv
  refine lv_aload_n hx hb dL_meanAge_0 rfl (lv_at hl 1 rfl) ?_
  refine lv_iconst (v := 0) hx hb dL_meanAge_1 (by decide) ?_
  refine lv_aload_n hx hb dL_meanAge_2 rfl (lv_at hl 0 rfl) ?_
  refine L_callTd hC (c_X6_meanAge l hfl D cs az a  g _ _ hv) (cwV 0 hts gL_meanAge_X6_meanAge rfl rfl rfl (by decide +kernel) ⟨Nat.le_of_ble_eq_true rfl, Nat.le_of_ble_eq_true rfl⟩) rfl hl rfl (Nat.le_of_ble_eq_true rfl) dL_meanAge_3 hP hD hS (Nat.le_of_ble_eq_true rfl) (Nat.le_of_ble_eq_true rfl) (fun E ce q9 g1 H locs hv hP hD hS e1 e2 e3 => ?_) (fun r g1 H locs hv hP hD hS => ?_)
  · obtain ⟨hEq, hv⟩ := hv
    subst hEq
    refine vx_catch (name := "java/lang/ArithmeticException") hown (tableOf []) ⟨0, 7, 10, 91⟩ (tableOf []) (htab.trans rfl) (fun _ h => absurd h List.not_mem_nil) (by decide) (by decide) (hts (.classLink RL 91 "java/lang/ArithmeticException") (List.mem_of_getElem? (i := 1) rfl)) (va_Nw.use rfl (hC.2.2.2.2.2.2.2.2.2.1 (.castable "java/lang/ArithmeticException" "java/lang/ArithmeticException") (List.mem_of_getElem? (i := 6) rfl))) e1 e2 e3 ?_
    refine lv_astore_n (lv' := [(2, .ref q9), (0, .ref (a 0)), (1, .ref ao)]) hx hb dL_meanAge_10 rfl hl (by decide) rfl (fun ls hl => ?_)
    refine lv_iconst (v := 1) hx hb dL_meanAge_11 (by decide) ?_
    exact L_iret (z := (g1, f)) hC hr hk hP hS hv dL_meanAge_12 (Nat.le_of_ble_eq_true rfl) (Nat.le_of_ble_eq_true rfl)
  · refine L_dast hC hP hD hS dL_meanAge_6 (fun H locs hP hD hS => ?_)
    refine lv_goto (tgt := 13) hx hb dL_meanAge_7 (by decide) ?_
    refine lv_iconst (v := 0) hx hb dL_meanAge_13 (by decide) ?_
    exact L_iret (z := (g1, vf_upd f 0 r)) hC hr hk hP hS hv dL_meanAge_14 (Nat.le_of_ble_eq_true rfl) (Nat.le_of_ble_eq_true rfl)
