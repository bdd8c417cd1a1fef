def V_X1_isMover (w : Nat) (x1 : Int32) (g : St) (post : Int32 → St → Prop) : Prop := vp_in x1 24 ∧ (V_X5_place w x1 g (fun r2 g1 => (((g.1 (9 + 10 * w) (Int32.toNatClampNeg x1)) = r2 → post 0 g1) ∧ (¬ (g.1 (9 + 10 * w) (Int32.toNatClampNeg x1)) = r2 → post 1 g1))))
abbrev rm_X1_isMover : Room := { frames := 1, cells := 0, slots := 0, locals := 21 }
set_option maxHeartbeats 4000000 in
set_option maxRecDepth 100000 in
theorem c_X1_isMover (l : Launch) (D : va_G) (cs az a : Nat → Nat) {w : Nat} (hw : w < 2) (x1 : Int32) (g : St) (post : Int32 → St → Prop) (hv : V_X1_isMover w x1 g post) : uMi l yX1_isMover wsX1_isMover rm_X1_isMover D cs az (gW cs a) [.ref (a (1 + 10 * w)), .int x1] g post := by
  refine u_ofI (cc := cX1_isMover) (maxL := 2) (by decide) rfl (Nat.le_of_ble_eq_true rfl) ?_
  intro p e s m args below meth c F ls hC hr hk hl hE
  have hx := hC.1.1; have hb := hC.1.2.1; have hml := hC.1.2.2.1; have hts := hC.1.2.2.2.2
  have hown : s.vm.findClass RX1 = some m.cls := hC.1.2.2.2.1
  have hl : lv_has ls 2 [(0, .ref (a (1 + 10 * w))), (1, .int x1)] := hl
  unfold V_X1_isMover at hv
  refine lv_aload_n hx hb dX1_isMover_0 rfl (lv_at hl 0 rfl) ?_
  refine G_get (v := .ref (a (9 + 10 * w))) hC hE (fun _ h => List.mem_cons_of_mem _ (List.mem_append_left _ (List.mem_append_left _ (List.mem_append_right _ h)))) (f_field hw) rfl 2 (by decide) (hts (.fieldLink RX1 25 "SeedBattle$Field" "wants" "[I") (List.mem_of_getElem? (i := 1) rfl)) rfl dX1_isMover_1 ?_
  refine lv_iload_n hx hb dX1_isMover_4 rfl (lv_at hl 1 rfl) ?_
  refine G_iald hC hE (f_wants hw) hv.1 dX1_isMover_5 ?_
  have hv := hv.2
  refine lv_aload_n hx hb dX1_isMover_6 rfl (lv_at hl 0 rfl) ?_
  refine G_get (v := .ref (a (4 + 10 * w))) hC hE (fun _ h => List.mem_cons_of_mem _ (List.mem_append_left _ (List.mem_append_left _ (List.mem_append_right _ h)))) (f_field hw) rfl 1 (by decide) (hts (.fieldLink RX1 21 "SeedBattle$Field" "units" "LSeedBattle$Units;") (List.mem_of_getElem? (i := 2) rfl)) rfl dX1_isMover_7 ?_
  refine lv_iload_n hx hb dX1_isMover_10 rfl (lv_at hl 1 rfl) ?_
  refine G_callVi hC (c_X5_place l D cs az a (w := w) hw x1 g _ hv) (cwV 1 hts gX1_isMover_X5_place rfl rfl rfl (by decide +kernel) ⟨Nat.le_of_ble_eq_true rfl, Nat.le_of_ble_eq_true rfl⟩) (f_units hw) rfl rfl hl rfl (Nat.le_of_ble_eq_true rfl) dX1_isMover_11 hE (fun r2 g1 H locs hv hE => ?_)
  refine lv_icmp_eq (tgt := 21) hx hb dX1_isMover_14 (by decide) (fun c => ?_) (fun c => ?_)
  · have hv := hv.1 c
    refine lv_iconst (v := 0) hx hb dX1_isMover_21 (by decide) ?_
    exact G_zret hC hr hk hE rfl hv dX1_isMover_22
  · have hv := hv.2 c
    refine lv_iconst (v := 1) hx hb dX1_isMover_17 (by decide) ?_
    refine lv_goto (tgt := 22) hx hb dX1_isMover_18 (by decide) ?_
    exact G_zret hC hr hk hE rfl hv dX1_isMover_22
def V_X1_facing (w : Nat) (x1 : Int32) (g : St) (post : Int32 → St → Prop) : Prop := V_X1_isMover w x1 g (fun r2 g1 => ((¬ r2 = 0 → vp_in x1 24 ∧ (V_X5_on w (g1.1 (9 + 10 * w) (Int32.toNatClampNeg x1)) g1 (fun r4 g3 => ((r4 = (-1) → post (-1) g3) ∧ (¬ r4 = (-1) → vp_in r4 24 ∧ (V_X5_place w x1 g3 (fun r6 g5 => (((g3.1 (9 + 10 * w) (Int32.toNatClampNeg r4)) = r6 → V_X5_owner w r4 g5 (fun r8 g7 => V_X5_owner w x1 g7 (fun r10 g9 => ((¬ r8 = r10 → post r4 g9) ∧ (r8 = r10 → post (-1) g9))))) ∧ (¬ (g3.1 (9 + 10 * w) (Int32.toNatClampNeg r4)) = r6 → post (-1) g5))))))))) ∧ (r2 = 0 → post (-1) g1)))
abbrev rm_X1_facing : Room := { frames := 2, cells := 0, slots := 0, locals := 42 }
set_option maxHeartbeats 4000000 in
set_option maxRecDepth 100000 in
theorem c_X1_facing (l : Launch) (D : va_G) (cs az a : Nat → Nat) {w : Nat} (hw : w < 2) (x1 : Int32) (g : St) (post : Int32 → St → Prop) (hv : V_X1_facing w x1 g post) : uMi l yX1_facing wsX1_facing rm_X1_facing D cs az (gW cs a) [.ref (a (1 + 10 * w)), .int x1] g post := by
  refine u_ofI (cc := cX1_facing) (maxL := 3) (by decide) rfl (Nat.le_of_ble_eq_true rfl) ?_
  intro p e s m args below meth c F ls hC hr hk hl hE
  have hx := hC.1.1; have hb := hC.1.2.1; have hml := hC.1.2.2.1; have hts := hC.1.2.2.2.2
  have hown : s.vm.findClass RX1 = some m.cls := hC.1.2.2.2.1
  have hl : lv_has ls 3 [(0, .ref (a (1 + 10 * w))), (1, .int x1)] := hl
  unfold V_X1_facing at hv
  refine lv_aload_n hx hb dX1_facing_0 rfl (lv_at hl 0 rfl) ?_
  refine lv_iload_n hx hb dX1_facing_1 rfl (lv_at hl 1 rfl) ?_
  refine G_callVi hC (c_X1_isMover l D cs az a (w := w) hw x1 g _ hv) (cwV 1 hts gX1_facing_X1_isMover rfl rfl rfl (by decide +kernel) ⟨Nat.le_of_ble_eq_true rfl, Nat.le_of_ble_eq_true rfl⟩) (f_field hw) rfl rfl hl rfl (Nat.le_of_ble_eq_true rfl) dX1_facing_2 hE (fun r2 g1 H locs hv hE => ?_)
  refine lv_if_ne (tgt := 10) hx hb dX1_facing_5 (by decide) (fun c => ?_) (fun c => ?_)
  · have hv := hv.1 c
    refine lv_aload_n hx hb dX1_facing_10 rfl (lv_at hl 0 rfl) ?_
    refine G_get (v := .ref (a (4 + 10 * w))) hC hE (fun _ h => List.mem_cons_of_mem _ (List.mem_append_left _ (List.mem_append_left _ (List.mem_append_right _ h)))) (f_field hw) rfl 1 (by decide) (hts (.fieldLink RX1 21 "SeedBattle$Field" "units" "LSeedBattle$Units;") (List.mem_of_getElem? (i := 1) rfl)) rfl dX1_facing_11 ?_
    refine lv_aload_n hx hb dX1_facing_14 rfl (lv_at hl 0 rfl) ?_
    refine G_get (v := .ref (a (9 + 10 * w))) hC hE (fun _ h => List.mem_cons_of_mem _ (List.mem_append_left _ (List.mem_append_left _ (List.mem_append_right _ h)))) (f_field hw) rfl 2 (by decide) (hts (.fieldLink RX1 25 "SeedBattle$Field" "wants" "[I") (List.mem_of_getElem? (i := 2) rfl)) rfl dX1_facing_15 ?_
    refine lv_iload_n hx hb dX1_facing_18 rfl (lv_at hl 1 rfl) ?_
    refine G_iald hC hE (f_wants hw) hv.1 dX1_facing_19 ?_
    have hv := hv.2
    refine G_callVi hC (c_X5_on l D cs az a (w := w) hw (g1.1 (9 + 10 * w) (Int32.toNatClampNeg x1)) g1 _ hv) (cwV 1 hts gX1_facing_X5_on rfl rfl rfl (by decide +kernel) ⟨Nat.le_of_ble_eq_true rfl, Nat.le_of_ble_eq_true rfl⟩) (f_units hw) rfl rfl hl rfl (Nat.le_of_ble_eq_true rfl) dX1_facing_20 hE (fun r4 g3 H locs hv hE => ?_)
    refine lv_istore_n (lv' := [(2, .int r4), (0, .ref (a (1 + 10 * w))), (1, .int x1)]) hx hb dX1_facing_23 rfl hl (by decide) rfl (fun ls hl => ?_)
    refine lv_iload_n hx hb dX1_facing_24 rfl (lv_at hl 0 rfl) ?_
    refine lv_iconst (v := (-1)) hx hb dX1_facing_25 (by decide) ?_
    refine lv_icmp_eq (tgt := 46) hx hb dX1_facing_26 (by decide) (fun c => ?_) (fun c => ?_)
    · have hv := hv.1 c
      refine lv_iconst (v := (-1)) hx hb dX1_facing_46 (by decide) ?_
      exact G_iret hC hr hk hE hv dX1_facing_47
    · have hv := hv.2 c
      refine lv_aload_n hx hb dX1_facing_29 rfl (lv_at hl 1 rfl) ?_
      refine G_get (v := .ref (a (9 + 10 * w))) hC hE (fun _ h => List.mem_cons_of_mem _ (List.mem_append_left _ (List.mem_append_left _ (List.mem_append_right _ h)))) (f_field hw) rfl 2 (by decide) (hts (.fieldLink RX1 25 "SeedBattle$Field" "wants" "[I") (List.mem_of_getElem? (i := 2) rfl)) rfl dX1_facing_30 ?_
      refine lv_iload_n hx hb dX1_facing_33 rfl (lv_at hl 0 rfl) ?_
      refine G_iald hC hE (f_wants hw) hv.1 dX1_facing_34 ?_
      have hv := hv.2
      refine lv_aload_n hx hb dX1_facing_35 rfl (lv_at hl 1 rfl) ?_
      refine G_get (v := .ref (a (4 + 10 * w))) hC hE (fun _ h => List.mem_cons_of_mem _ (List.mem_append_left _ (List.mem_append_left _ (List.mem_append_right _ h)))) (f_field hw) rfl 1 (by decide) (hts (.fieldLink RX1 21 "SeedBattle$Field" "units" "LSeedBattle$Units;") (List.mem_of_getElem? (i := 1) rfl)) rfl dX1_facing_36 ?_
      refine lv_iload_n hx hb dX1_facing_39 rfl (lv_at hl 2 rfl) ?_
      refine G_callVi hC (c_X5_place l D cs az a (w := w) hw x1 g3 _ hv) (cwV 1 hts gX1_facing_X5_place rfl rfl rfl (by decide +kernel) ⟨Nat.le_of_ble_eq_true rfl, Nat.le_of_ble_eq_true rfl⟩) (f_units hw) rfl rfl hl rfl (Nat.le_of_ble_eq_true rfl) dX1_facing_40 hE (fun r6 g5 H locs hv hE => ?_)
      refine lv_icmp_eq (tgt := 48) hx hb dX1_facing_43 (by decide) (fun c => ?_) (fun c => ?_)
      · have hv := hv.1 c
        refine lv_aload_n hx hb dX1_facing_48 rfl (lv_at hl 1 rfl) ?_
        refine G_get (v := .ref (a (4 + 10 * w))) hC hE (fun _ h => List.mem_cons_of_mem _ (List.mem_append_left _ (List.mem_append_left _ (List.mem_append_right _ h)))) (f_field hw) rfl 1 (by decide) (hts (.fieldLink RX1 21 "SeedBattle$Field" "units" "LSeedBattle$Units;") (List.mem_of_getElem? (i := 1) rfl)) rfl dX1_facing_49 ?_
        refine lv_iload_n hx hb dX1_facing_52 rfl (lv_at hl 0 rfl) ?_
        refine G_callVi hC (c_X5_owner l D cs az a (w := w) hw r4 g5 _ hv) (cwV 1 hts gX1_facing_X5_owner rfl rfl rfl (by decide +kernel) ⟨Nat.le_of_ble_eq_true rfl, Nat.le_of_ble_eq_true rfl⟩) (f_units hw) rfl rfl hl rfl (Nat.le_of_ble_eq_true rfl) dX1_facing_53 hE (fun r8 g7 H locs hv hE => ?_)
        refine lv_aload_n hx hb dX1_facing_56 rfl (lv_at hl 1 rfl) ?_
        refine G_get (v := .ref (a (4 + 10 * w))) hC hE (fun _ h => List.mem_cons_of_mem _ (List.mem_append_left _ (List.mem_append_left _ (List.mem_append_right _ h)))) (f_field hw) rfl 1 (by decide) (hts (.fieldLink RX1 21 "SeedBattle$Field" "units" "LSeedBattle$Units;") (List.mem_of_getElem? (i := 1) rfl)) rfl dX1_facing_57 ?_
        refine lv_iload_n hx hb dX1_facing_60 rfl (lv_at hl 2 rfl) ?_
        refine G_callVi hC (c_X5_owner l D cs az a (w := w) hw x1 g7 _ hv) (cwV 1 hts gX1_facing_X5_owner rfl rfl rfl (by decide +kernel) ⟨Nat.le_of_ble_eq_true rfl, Nat.le_of_ble_eq_true rfl⟩) (f_units hw) rfl rfl hl rfl (Nat.le_of_ble_eq_true rfl) dX1_facing_61 hE (fun r10 g9 H locs hv hE => ?_)
        refine lv_icmp_ne (tgt := 71) hx hb dX1_facing_64 (by decide) (fun c => ?_) (fun c => ?_)
        · have hv := hv.1 c
          refine lv_iload_n hx hb dX1_facing_71 rfl (lv_at hl 0 rfl) ?_
          exact G_iret hC hr hk hE hv dX1_facing_72
        · have hv := hv.2 c
          refine lv_iconst (v := (-1)) hx hb dX1_facing_67 (by decide) ?_
          refine lv_goto (tgt := 72) hx hb dX1_facing_68 (by decide) ?_
          exact G_iret hC hr hk hE hv dX1_facing_72
      · have hv := hv.2 c
        refine lv_iconst (v := (-1)) hx hb dX1_facing_46 (by decide) ?_
        exact G_iret hC hr hk hE hv dX1_facing_47
  · have hv := hv.2 c
    refine lv_iconst (v := (-1)) hx hb dX1_facing_8 (by decide) ?_
    exact G_iret hC hr hk hE hv dX1_facing_9
def V_X1_lose (w : Nat) (x1 : Int32) (g : St) (post : St → Prop) : Prop := V_X5_move w x1 (-1) g (fun g1 => vp_in x1 24 ∧ (post (sA g1 (9 + 10 * w) (upd (g1.1 (9 + 10 * w)) (Int32.toNatClampNeg x1) (-1)))))
abbrev rm_X1_lose : Room := { frames := 1, cells := 0, slots := 0, locals := 22 }
set_option maxHeartbeats 4000000 in
set_option maxRecDepth 100000 in
theorem c_X1_lose (l : Launch) (D : va_G) (cs az a : Nat → Nat) {w : Nat} (hw : w < 2) (x1 : Int32) (g : St) (post : St → Prop) (hv : V_X1_lose w x1 g post) : uMv l yX1_lose wsX1_lose rm_X1_lose D cs az (gW cs a) [.ref (a (1 + 10 * w)), .int x1] g post := by
  refine u_ofV (cc := cX1_lose) (maxL := 2) (by decide) rfl (Nat.le_of_ble_eq_true rfl) ?_
  intro p e s m args below meth c F ls hC hr hk hl hE
  have hx := hC.1.1; have hb := hC.1.2.1; have hml := hC.1.2.2.1; have hts := hC.1.2.2.2.2
  have hown : s.vm.findClass RX1 = some m.cls := hC.1.2.2.2.1
  have hl : lv_has ls 2 [(0, .ref (a (1 + 10 * w))), (1, .int x1)] := hl
  unfold V_X1_lose at hv
  refine lv_aload_n hx hb dX1_lose_0 rfl (lv_at hl 0 rfl) ?_
  refine G_get (v := .ref (a (4 + 10 * w))) hC hE (fun _ h => List.mem_cons_of_mem _ (List.mem_append_left _ (List.mem_append_left _ (List.mem_append_right _ h)))) (f_field hw) rfl 1 (by decide) (hts (.fieldLink RX1 21 "SeedBattle$Field" "units" "LSeedBattle$Units;") (List.mem_of_getElem? (i := 1) rfl)) rfl dX1_lose_1 ?_
  refine lv_iload_n hx hb dX1_lose_4 rfl (lv_at hl 1 rfl) ?_
  refine lv_iconst (v := (-1)) hx hb dX1_lose_5 (by decide) ?_
  refine G_callVv hC (c_X5_move l D cs az a (w := w) hw x1 (-1) g _ hv) (cwV 2 hts gX1_lose_X5_move rfl rfl rfl (by decide +kernel) ⟨Nat.le_of_ble_eq_true rfl, Nat.le_of_ble_eq_true rfl⟩) (f_units hw) rfl rfl hl rfl (Nat.le_of_ble_eq_true rfl) dX1_lose_6 hE (fun g1 H locs hv hE => ?_)
  refine lv_aload_n hx hb dX1_lose_9 rfl (lv_at hl 0 rfl) ?_
  refine G_get (v := .ref (a (9 + 10 * w))) hC hE (fun _ h => List.mem_cons_of_mem _ (List.mem_append_left _ (List.mem_append_left _ (List.mem_append_right _ h)))) (f_field hw) rfl 2 (by decide) (hts (.fieldLink RX1 25 "SeedBattle$Field" "wants" "[I") (List.mem_of_getElem? (i := 2) rfl)) rfl dX1_lose_10 ?_
  refine lv_iload_n hx hb dX1_lose_13 rfl (lv_at hl 1 rfl) ?_
  refine lv_iconst (v := (-1)) hx hb dX1_lose_14 (by decide) ?_
  refine G_iast hC hE (f_wants hw) hv.1 dX1_lose_15 (fun H locs hE => ?_)
  have hv := hv.2
  exact G_vret hC hr hk hE hv dX1_lose_16
def J_X1_meet_62 (w : Nat) (x1 : Int32) (x2 : Int32) (post : Int32 → St → Prop)  (t0 : Int32) (g : St) : Prop := V_X1_lose w t0 g (fun g9 => post 1 g9)
def V_X1_meet (w : Nat) (x1 : Int32) (x2 : Int32) (g : St) (post : Int32 → St → Prop) : Prop := V_X5_power w x1 g (fun r2 g1 => V_X5_power w x2 g1 (fun r4 g3 => ((¬ (r2 - r4) = 0 → ((0 ≤ (r2 - r4) → J_X1_meet_62 w x1 x2 post x2 g3) ∧ (¬ 0 ≤ (r2 - r4) → J_X1_meet_62 w x1 x2 post x1 g3))) ∧ ((r2 - r4) = 0 → V_X5_place w x1 g3 (fun r6 g5 => vp_in x1 24 ∧ (V_X5_place w x2 (sA g5 (9 + 10 * w) (upd (g5.1 (9 + 10 * w)) (Int32.toNatClampNeg x1) r6)) (fun r8 g7 => vp_in x2 24 ∧ (post 0 (sA g7 (9 + 10 * w) (upd (g7.1 (9 + 10 * w)) (Int32.toNatClampNeg x2) r8))))))))))
abbrev rm_X1_meet : Room := { frames := 2, cells := 0, slots := 0, locals := 43 }
set_option maxHeartbeats 4000000 in
set_option maxRecDepth 100000 in
theorem c_X1_meet (l : Launch) (D : va_G) (cs az a : Nat → Nat) {w : Nat} (hw : w < 2) (x1 : Int32) (x2 : Int32) (g : St) (post : Int32 → St → Prop) (hv : V_X1_meet w x1 x2 g post) : uMi l yX1_meet wsX1_meet rm_X1_meet D cs az (gW cs a) [.ref (a (1 + 10 * w)), .int x1, .int x2] g post := by
  refine u_ofI (cc := cX1_meet) (maxL := 4) (by decide) rfl (Nat.le_of_ble_eq_true rfl) ?_
  intro p e s m args below meth c F ls hC hr hk hl hE
  have hx := hC.1.1; have hb := hC.1.2.1; have hml := hC.1.2.2.1; have hts := hC.1.2.2.2.2
  have hown : s.vm.findClass RX1 = some m.cls := hC.1.2.2.2.1
  have hl : lv_has ls 4 [(0, .ref (a (1 + 10 * w))), (1, .int x1), (2, .int x2)] := hl
  unfold V_X1_meet at hv
  have j_62 : ∀ (t0 : Int32) (g : St), J_X1_meet_62 w x1 x2 post t0 g → ∀ (H : Heap) (locs : List Loc) (ls : Array Slot), uE D 52 gA (gO cs a) cs a F s g H locs → lv_has ls 4 [] → W p l e rm_X1_meet s m args below meth c H locs 0 0 (MQ below (va_Qi post (uB D (uW 52 gA (gO cs a) cs a)) F) args s 0 0 F) (F0 m 62 ls [.int t0, .ref (a (1 + 10 * w))]) := by
    intro  t0 g  hv
    intro H locs ls hE hl
    unfold J_X1_meet_62 at hv
    refine G_callVv hC (c_X1_lose l D cs az a (w := w) hw t0 g _ hv) (cwV 1 hts gX1_meet_X1_lose rfl rfl rfl (by decide +kernel) ⟨Nat.le_of_ble_eq_true rfl, Nat.le_of_ble_eq_true rfl⟩) (f_field hw) rfl rfl hl rfl (Nat.le_of_ble_eq_true rfl) dX1_meet_62 hE (fun g9 H locs hv hE => ?_)
    refine lv_iconst (v := 1) hx hb dX1_meet_65 (by decide) ?_
    exact G_iret hC hr hk hE hv dX1_meet_66
  refine lv_aload_n hx hb dX1_meet_0 rfl (lv_at hl 0 rfl) ?_
  refine G_get (v := .ref (a (4 + 10 * w))) hC hE (fun _ h => List.mem_cons_of_mem _ (List.mem_append_left _ (List.mem_append_left _ (List.mem_append_right _ h)))) (f_field hw) rfl 1 (by decide) (hts (.fieldLink RX1 21 "SeedBattle$Field" "units" "LSeedBattle$Units;") (List.mem_of_getElem? (i := 1) rfl)) rfl dX1_meet_1 ?_
  refine lv_iload_n hx hb dX1_meet_4 rfl (lv_at hl 1 rfl) ?_
  refine G_callVi hC (c_X5_power l D cs az a (w := w) hw x1 g _ hv) (cwV 1 hts gX1_meet_X5_power rfl rfl rfl (by decide +kernel) ⟨Nat.le_of_ble_eq_true rfl, Nat.le_of_ble_eq_true rfl⟩) (f_units hw) rfl rfl hl rfl (Nat.le_of_ble_eq_true rfl) dX1_meet_5 hE (fun r2 g1 H locs hv hE => ?_)
  refine lv_aload_n hx hb dX1_meet_8 rfl (lv_at hl 0 rfl) ?_
  refine G_get (v := .ref (a (4 + 10 * w))) hC hE (fun _ h => List.mem_cons_of_mem _ (List.mem_append_left _ (List.mem_append_left _ (List.mem_append_right _ h)))) (f_field hw) rfl 1 (by decide) (hts (.fieldLink RX1 21 "SeedBattle$Field" "units" "LSeedBattle$Units;") (List.mem_of_getElem? (i := 1) rfl)) rfl dX1_meet_9 ?_
  refine lv_iload_n hx hb dX1_meet_12 rfl (lv_at hl 2 rfl) ?_
  refine G_callVi hC (c_X5_power l D cs az a (w := w) hw x2 g1 _ hv) (cwV 1 hts gX1_meet_X5_power rfl rfl rfl (by decide +kernel) ⟨Nat.le_of_ble_eq_true rfl, Nat.le_of_ble_eq_true rfl⟩) (f_units hw) rfl rfl hl rfl (Nat.le_of_ble_eq_true rfl) dX1_meet_13 hE (fun r4 g3 H locs hv hE => ?_)
  refine lv_isub hx hb dX1_meet_16 ?_
  refine lv_istore_n (lv' := [(3, .int (r2 - r4)), (0, .ref (a (1 + 10 * w))), (1, .int x1), (2, .int x2)]) hx hb dX1_meet_17 rfl hl (by decide) rfl (fun ls hl => ?_)
  refine lv_iload_n hx hb dX1_meet_18 rfl (lv_at hl 0 rfl) ?_
  refine lv_if_ne (tgt := 52) hx hb dX1_meet_19 (by decide) (fun c => ?_) (fun c => ?_)
  · have hv := hv.1 c
    refine lv_aload_n hx hb dX1_meet_52 rfl (lv_at hl 1 rfl) ?_
    refine lv_iload_n hx hb dX1_meet_53 rfl (lv_at hl 0 rfl) ?_
    refine lv_if_ge (tgt := 61) hx hb dX1_meet_54 (by decide) (fun c => ?_) (fun c => ?_)
    · have hv := hv.1 c
      refine lv_iload_n hx hb dX1_meet_61 rfl (lv_at hl 3 rfl) ?_
      exact j_62  _ _  hv _ _ _ hE (lv_sub hl [] rfl)
    · have hv := hv.2 c
      refine lv_iload_n hx hb dX1_meet_57 rfl (lv_at hl 2 rfl) ?_
      refine lv_goto (tgt := 62) hx hb dX1_meet_58 (by decide) ?_
      exact j_62  _ _  hv _ _ _ hE (lv_sub hl [] rfl)
  · have hv := hv.2 c
    refine lv_aload_n hx hb dX1_meet_22 rfl (lv_at hl 1 rfl) ?_
    refine G_get (v := .ref (a (9 + 10 * w))) hC hE (fun _ h => List.mem_cons_of_mem _ (List.mem_append_left _ (List.mem_append_left _ (List.mem_append_right _ h)))) (f_field hw) rfl 2 (by decide) (hts (.fieldLink RX1 25 "SeedBattle$Field" "wants" "[I") (List.mem_of_getElem? (i := 2) rfl)) rfl dX1_meet_23 ?_
    refine lv_iload_n hx hb dX1_meet_26 rfl (lv_at hl 2 rfl) ?_
    refine lv_aload_n hx hb dX1_meet_27 rfl (lv_at hl 1 rfl) ?_
    refine G_get (v := .ref (a (4 + 10 * w))) hC hE (fun _ h => List.mem_cons_of_mem _ (List.mem_append_left _ (List.mem_append_left _ (List.mem_append_right _ h)))) (f_field hw) rfl 1 (by decide) (hts (.fieldLink RX1 21 "SeedBattle$Field" "units" "LSeedBattle$Units;") (List.mem_of_getElem? (i := 1) rfl)) rfl dX1_meet_28 ?_
    refine lv_iload_n hx hb dX1_meet_31 rfl (lv_at hl 2 rfl) ?_
    refine G_callVi hC (c_X5_place l D cs az a (w := w) hw x1 g3 _ hv) (cwV 1 hts gX1_meet_X5_place rfl rfl rfl (by decide +kernel) ⟨Nat.le_of_ble_eq_true rfl, Nat.le_of_ble_eq_true rfl⟩) (f_units hw) rfl rfl hl rfl (Nat.le_of_ble_eq_true rfl) dX1_meet_32 hE (fun r6 g5 H locs hv hE => ?_)
    refine G_iast hC hE (f_wants hw) hv.1 dX1_meet_35 (fun H locs hE => ?_)
    have hv := hv.2
    refine lv_aload_n hx hb dX1_meet_36 rfl (lv_at hl 1 rfl) ?_
    refine G_get (v := .ref (a (9 + 10 * w))) hC hE (fun _ h => List.mem_cons_of_mem _ (List.mem_append_left _ (List.mem_append_left _ (List.mem_append_right _ h)))) (f_field hw) rfl 2 (by decide) (hts (.fieldLink RX1 25 "SeedBattle$Field" "wants" "[I") (List.mem_of_getElem? (i := 2) rfl)) rfl dX1_meet_37 ?_
    refine lv_iload_n hx hb dX1_meet_40 rfl (lv_at hl 3 rfl) ?_
    refine lv_aload_n hx hb dX1_meet_41 rfl (lv_at hl 1 rfl) ?_
    refine G_get (v := .ref (a (4 + 10 * w))) hC hE (fun _ h => List.mem_cons_of_mem _ (List.mem_append_left _ (List.mem_append_left _ (List.mem_append_right _ h)))) (f_field hw) rfl 1 (by decide) (hts (.fieldLink RX1 21 "SeedBattle$Field" "units" "LSeedBattle$Units;") (List.mem_of_getElem? (i := 1) rfl)) rfl dX1_meet_42 ?_
    refine lv_iload_n hx hb dX1_meet_45 rfl (lv_at hl 3 rfl) ?_
    refine G_callVi hC (c_X5_place l D cs az a (w := w) hw x2 (sA g5 (9 + 10 * w) (upd (g5.1 (9 + 10 * w)) (Int32.toNatClampNeg x1) r6)) _ hv) (cwV 1 hts gX1_meet_X5_place rfl rfl rfl (by decide +kernel) ⟨Nat.le_of_ble_eq_true rfl, Nat.le_of_ble_eq_true rfl⟩) (f_units hw) rfl rfl hl rfl (Nat.le_of_ble_eq_true rfl) dX1_meet_46 hE (fun r8 g7 H locs hv hE => ?_)
    refine G_iast hC hE (f_wants hw) hv.1 dX1_meet_49 (fun H locs hE => ?_)
    have hv := hv.2
    refine lv_iconst (v := 0) hx hb dX1_meet_50 (by decide) ?_
    exact G_iret hC hr hk hE hv dX1_meet_51
def J_X1_meetPairs_35 (w : Nat) (post : Int32 → St → Prop) (K4 : (Int32 × Int32 × St) → Prop) (v1 : Int32) (v2 : Int32) (g : St) : Prop := K4 (v1, (v2 + 1), g)
def J_X1_meetPairs_4 (w : Nat) (post : Int32 → St → Prop) (K4 : (Int32 × Int32 × St) → Prop) (v1 : Int32) (v2 : Int32) (g : St) : Prop := (((g.2 (3 + w)) ≤ v2 → post v1 g) ∧ (¬ (g.2 (3 + w)) ≤ v2 → V_X1_facing w v2 g (fun r2 g1 => ((r2 = (-1) → J_X1_meetPairs_35 w post K4 v1 v2 g1) ∧ (¬ r2 = (-1) → V_X1_meet w v2 r2 g1 (fun r4 g3 => J_X1_meetPairs_35 w post K4 (v1 + r4) v2 g3))))))
def V_X1_meetPairs (w : Nat) (g : St) (post : Int32 → St → Prop) : Prop := lpP (fun K4 (z : Int32 × Int32 × St) => J_X1_meetPairs_4 w post K4 z.1 z.2.1 z.2.2) (0, 0, g)
abbrev rm_X1_meetPairs : Room := { frames := 3, cells := 0, slots := 0, locals := 66 }
set_option maxHeartbeats 4000000 in
set_option maxRecDepth 100000 in
theorem c_X1_meetPairs (l : Launch) (D : va_G) (cs az a : Nat → Nat) {w : Nat} (hw : w < 2)  (g : St) (post : Int32 → St → Prop) (hv : V_X1_meetPairs w g post) : uMi l yX1_meetPairs wsX1_meetPairs rm_X1_meetPairs D cs az (gW cs a) [.ref (a (1 + 10 * w))] g post := by
  refine u_ofI (cc := cX1_meetPairs) (maxL := 4) (by decide) rfl (Nat.le_of_ble_eq_true rfl) ?_
  intro p e s m args below meth c F ls hC hr hk hl hE
  have hx := hC.1.1; have hb := hC.1.2.1; have hml := hC.1.2.2.1; have hts := hC.1.2.2.2.2
  have hown : s.vm.findClass RX1 = some m.cls := hC.1.2.2.2.1
  have hl : lv_has ls 4 [(0, .ref (a (1 + 10 * w)))] := hl
  unfold V_X1_meetPairs at hv
  have j_35 : ∀ (K4 : (Int32 × Int32 × St) → Prop), (∀ (v1 : Int32) (v2 : Int32) (g : St), K4 (v1, v2, g) → ∀ (H : Heap) (locs : List Loc) (ls : Array Slot), uE D 52 gA (gO cs a) cs a F s g H locs → lv_has ls 4 [(0, .ref (a (1 + 10 * w))), (1, .int v1), (2, .int v2)] → W p l e rm_X1_meetPairs s m args below meth c H locs 0 0 (MQ below (va_Qi post (uB D (uW 52 gA (gO cs a) cs a)) F) args s 0 0 F) (F0 m 4 ls [])) → ∀ (v1 : Int32) (v2 : Int32) (g : St), J_X1_meetPairs_35 w post K4 v1 v2 g → ∀ (H : Heap) (locs : List Loc) (ls : Array Slot), uE D 52 gA (gO cs a) cs a F s g H locs → lv_has ls 4 [(0, .ref (a (1 + 10 * w))), (1, .int v1), (2, .int v2)] → W p l e rm_X1_meetPairs s m args below meth c H locs 0 0 (MQ below (va_Qi post (uB D (uW 52 gA (gO cs a) cs a)) F) args s 0 0 F) (F0 m 35 ls []) := by
    intro K4 hK4 v1 v2 g  hv
    intro H locs ls hE hl
    unfold J_X1_meetPairs_35 at hv
    refine lv_iinc (v := (v2 + 1)) (lv' := [(2, .int (v2 + 1)), (0, .ref (a (1 + 10 * w))), (1, .int v1)]) hx hb dX1_meetPairs_35 hl (k := 2) rfl rfl (by decide) rfl (fun ls hl => ?_)
    refine lv_goto (tgt := 4) hx hb dX1_meetPairs_38 (by decide) ?_
    exact hK4 _ _ _  hv _ _ _ hE (lv_sub hl [1, 2, 0] rfl)
  have j_4 : ∀ (v1 : Int32) (v2 : Int32) (g : St), lpP (fun K4 (z : Int32 × Int32 × St) => J_X1_meetPairs_4 w post K4 z.1 z.2.1 z.2.2) (v1, v2, g) → ∀ (H : Heap) (locs : List Loc) (ls : Array Slot), uE D 52 gA (gO cs a) cs a F s g H locs → lv_has ls 4 [(0, .ref (a (1 + 10 * w))), (1, .int v1), (2, .int v2)] → W p l e rm_X1_meetPairs s m args below meth c H locs 0 0 (MQ below (va_Qi post (uB D (uW 52 gA (gO cs a) cs a)) F) args s 0 0 F) (F0 m 4 ls []) := by
    intro  v1 v2 g  hv
    obtain ⟨nn, hv⟩ := hv
    induction nn generalizing v1 v2 g with
    | zero => exact False.elim hv
    | succ nn hK4 =>
      intro H locs ls hE hl
      have hv : J_X1_meetPairs_4 w post (itP _ nn) v1 v2 g := hv
      unfold J_X1_meetPairs_4 at hv
      refine lv_iload_n hx hb dX1_meetPairs_4 rfl (lv_at hl 2 rfl) ?_
      refine lv_aload_n hx hb dX1_meetPairs_5 rfl (lv_at hl 0 rfl) ?_
      refine G_get (v := .ref (a (4 + 10 * w))) hC hE (fun _ h => List.mem_cons_of_mem _ (List.mem_append_left _ (List.mem_append_left _ (List.mem_append_right _ h)))) (f_field hw) rfl 1 (by decide) (hts (.fieldLink RX1 21 "SeedBattle$Field" "units" "LSeedBattle$Units;") (List.mem_of_getElem? (i := 1) rfl)) rfl dX1_meetPairs_6 ?_
      refine G_getN (v := .int (g.2 (3 + w))) hC hE (fun _ h => List.mem_cons_of_mem _ (List.mem_append_left _ (List.mem_append_right _ h))) (f_units hw) rfl 4 (by decide) (List.mem_of_getElem? (i := 6) rfl) rfl dX1_meetPairs_9 ?_
      refine lv_icmp_ge (tgt := 41) hx hb dX1_meetPairs_12 (by decide) (fun c => ?_) (fun c => ?_)
      · have hv := hv.1 c
        refine lv_iload_n hx hb dX1_meetPairs_41 rfl (lv_at hl 1 rfl) ?_
        exact G_iret hC hr hk hE hv dX1_meetPairs_42
      · have hv := hv.2 c
        refine lv_aload_n hx hb dX1_meetPairs_15 rfl (lv_at hl 0 rfl) ?_
        refine lv_iload_n hx hb dX1_meetPairs_16 rfl (lv_at hl 2 rfl) ?_
        refine G_callVi hC (c_X1_facing l D cs az a (w := w) hw v2 g _ hv) (cwV 1 hts gX1_meetPairs_X1_facing rfl rfl rfl (by decide +kernel) ⟨Nat.le_of_ble_eq_true rfl, Nat.le_of_ble_eq_true rfl⟩) (f_field hw) rfl rfl hl rfl (Nat.le_of_ble_eq_true rfl) dX1_meetPairs_17 hE (fun r2 g1 H locs hv hE => ?_)
        refine lv_istore_n (lv' := [(3, .int r2), (0, .ref (a (1 + 10 * w))), (1, .int v1), (2, .int v2)]) hx hb dX1_meetPairs_20 rfl hl (by decide) rfl (fun ls hl => ?_)
        refine lv_iload_n hx hb dX1_meetPairs_21 rfl (lv_at hl 0 rfl) ?_
        refine lv_iconst (v := (-1)) hx hb dX1_meetPairs_22 (by decide) ?_
        refine lv_icmp_eq (tgt := 35) hx hb dX1_meetPairs_23 (by decide) (fun c => ?_) (fun c => ?_)
        · have hv := hv.1 c
          exact j_35 _ hK4 _ _ _  hv _ _ _ hE (lv_sub hl [1, 2, 3] rfl)
        · have hv := hv.2 c
          refine lv_iload_n hx hb dX1_meetPairs_26 rfl (lv_at hl 2 rfl) ?_
          refine lv_aload_n hx hb dX1_meetPairs_27 rfl (lv_at hl 1 rfl) ?_
          refine lv_iload_n hx hb dX1_meetPairs_28 rfl (lv_at hl 3 rfl) ?_
          refine lv_iload_n hx hb dX1_meetPairs_29 rfl (lv_at hl 0 rfl) ?_
          refine G_callVi hC (c_X1_meet l D cs az a (w := w) hw v2 r2 g1 _ hv) (cwV 2 hts gX1_meetPairs_X1_meet rfl rfl rfl (by decide +kernel) ⟨Nat.le_of_ble_eq_true rfl, Nat.le_of_ble_eq_true rfl⟩) (f_field hw) rfl rfl hl rfl (Nat.le_of_ble_eq_true rfl) dX1_meetPairs_30 hE (fun r4 g3 H locs hv hE => ?_)
          refine lv_iadd hx hb dX1_meetPairs_33 ?_
          refine lv_istore_n (lv' := [(1, .int (v1 + r4)), (3, .int r2), (0, .ref (a (1 + 10 * w))), (2, .int v2)]) hx hb dX1_meetPairs_34 rfl hl (by decide) rfl (fun ls hl => ?_)
          exact j_35 _ hK4 _ _ _  hv _ _ _ hE (lv_sub hl [2, 0, 3] rfl)
  refine lv_iconst (v := 0) hx hb dX1_meetPairs_0 (by decide) ?_
  refine lv_istore_n (lv' := [(1, .int 0), (0, .ref (a (1 + 10 * w)))]) hx hb dX1_meetPairs_1 rfl hl (by decide) rfl (fun ls hl => ?_)
  refine lv_iconst (v := 0) hx hb dX1_meetPairs_2 (by decide) ?_
  refine lv_istore_n (lv' := [(2, .int 0), (1, .int 0), (0, .ref (a (1 + 10 * w)))]) hx hb dX1_meetPairs_3 rfl hl (by decide) rfl (fun ls hl => ?_)
  exact j_4  _ _ _  hv _ _ _ hE (lv_sub hl [2, 1, 0] rfl)
def J_X1_readWants_79 (w : Nat) (x2 : Int32) (x3 : Int32) (post : Int32 → St → Prop) (K6 : (Int32 × Int32 × Int32 × Int32 × St) → Prop) (v2 : Int32) (v3 : Int32) (v4 : Int32) (v5 : Int32) (g : St) : Prop := K6 (v2, v3, v4, (v5 + 1), g)
def J_X1_readWants_6 (w : Nat) (x2 : Int32) (x3 : Int32) (post : Int32 → St → Prop) (K6 : (Int32 × Int32 × Int32 × Int32 × St) → Prop) (v2 : Int32) (v3 : Int32) (v4 : Int32) (v5 : Int32) (g : St) : Prop := (((g.2 (3 + w)) ≤ v5 → (narrow .boolean (.int v4) = .int v4) ∧ post v4 g) ∧ (¬ (g.2 (3 + w)) ≤ v5 → V_X5_place w v5 g (fun r2 g1 => vp_in v5 24 ∧ (((r2 = (-1) → J_X1_readWants_79 w x2 x3 post K6 v2 v3 v4 v5 (sA g1 (9 + 10 * w) (upd (g1.1 (9 + 10 * w)) (Int32.toNatClampNeg v5) r2))) ∧ (¬ r2 = (-1) → V_X4_direction v2 v5 v3 (sA g1 (9 + 10 * w) (upd (g1.1 (9 + 10 * w)) (Int32.toNatClampNeg v5) r2)) (fun r4 g3 => V_X3_beside w r2 r4 g3 (fun r6 g5 => vp_in v5 24 ∧ (V_X1_isMover w v5 (sA g5 (9 + 10 * w) (upd (g5.1 (9 + 10 * w)) (Int32.toNatClampNeg v5) r6)) (fun r8 g7 => J_X1_readWants_79 w x2 x3 post K6 v2 v3 (v4 ||| r8) v5 g7))))))))))
def V_X1_readWants (w : Nat) (x2 : Int32) (x3 : Int32) (g : St) (post : Int32 → St → Prop) : Prop := lpP (fun K6 (z : Int32 × Int32 × Int32 × Int32 × St) => J_X1_readWants_6 w x2 x3 post K6 z.1 z.2.1 z.2.2.1 z.2.2.2.1 z.2.2.2.2) (x2, x3, 0, 0, g)
abbrev rm_X1_readWants : Room := { frames := 3, cells := 0, slots := 0, locals := 66 }
set_option maxHeartbeats 4000000 in
set_option maxRecDepth 100000 in
theorem c_X1_readWants (l : Launch) (D : va_G) (cs az a : Nat → Nat) {w : Nat} (hw : w < 2) (x2 : Int32) (x3 : Int32) (g : St) (post : Int32 → St → Prop) (hv : V_X1_readWants w x2 x3 g post) : uMi l yX1_readWants wsX1_readWants rm_X1_readWants D cs az (gW cs a) [.ref (a (1 + 10 * w)), .ref (a 21), .int x2, .int x3] g post := by
  refine u_ofI (cc := cX1_readWants) (maxL := 7) (by decide) rfl (Nat.le_of_ble_eq_true rfl) ?_
  intro p e s m args below meth c F ls hC hr hk hl hE
  have hx := hC.1.1; have hb := hC.1.2.1; have hml := hC.1.2.2.1; have hts := hC.1.2.2.2.2
  have hown : s.vm.findClass RX1 = some m.cls := hC.1.2.2.2.1
  have hl : lv_has ls 7 [(0, .ref (a (1 + 10 * w))), (1, .ref (a 21)), (2, .int x2), (3, .int x3)] := hl
  unfold V_X1_readWants at hv
  have j_79 : ∀ (K6 : (Int32 × Int32 × Int32 × Int32 × St) → Prop), (∀ (v2 : Int32) (v3 : Int32) (v4 : Int32) (v5 : Int32) (g : St), K6 (v2, v3, v4, v5, g) → ∀ (H : Heap) (locs : List Loc) (ls : Array Slot), uE D 52 gA (gO cs a) cs a F s g H locs → lv_has ls 7 [(0, .ref (a (1 + 10 * w))), (1, .ref (a 21)), (2, .int v2), (3, .int v3), (4, .int v4), (5, .int v5)] → W p l e rm_X1_readWants s m args below meth c H locs 0 0 (MQ below (va_Qi post (uB D (uW 52 gA (gO cs a) cs a)) F) args s 0 0 F) (F0 m 6 ls [])) → ∀ (v2 : Int32) (v3 : Int32) (v4 : Int32) (v5 : Int32) (g : St), J_X1_readWants_79 w x2 x3 post K6 v2 v3 v4 v5 g → ∀ (H : Heap) (locs : List Loc) (ls : Array Slot), uE D 52 gA (gO cs a) cs a F s g H locs → lv_has ls 7 [(0, .ref (a (1 + 10 * w))), (1, .ref (a 21)), (2, .int v2), (3, .int v3), (4, .int v4), (5, .int v5)] → W p l e rm_X1_readWants s m args below meth c H locs 0 0 (MQ below (va_Qi post (uB D (uW 52 gA (gO cs a) cs a)) F) args s 0 0 F) (F0 m 79 ls []) := by
    intro K6 hK6 v2 v3 v4 v5 g  hv
    intro H locs ls hE hl
    unfold J_X1_readWants_79 at hv
    refine lv_iinc (v := (v5 + 1)) (lv' := [(5, .int (v5 + 1)), (0, .ref (a (1 + 10 * w))), (1, .ref (a 21)), (2, .int v2), (3, .int v3), (4, .int v4)]) hx hb dX1_readWants_79 hl (k := 5) rfl rfl (by decide) rfl (fun ls hl => ?_)
    refine lv_goto (tgt := 6) hx hb dX1_readWants_82 (by decide) ?_
    exact hK6 _ _ _ _ _  hv _ _ _ hE (lv_sub hl [1, 2, 3, 4, 5, 0] rfl)
  have j_6 : ∀ (v2 : Int32) (v3 : Int32) (v4 : Int32) (v5 : Int32) (g : St), lpP (fun K6 (z : Int32 × Int32 × Int32 × Int32 × St) => J_X1_readWants_6 w x2 x3 post K6 z.1 z.2.1 z.2.2.1 z.2.2.2.1 z.2.2.2.2) (v2, v3, v4, v5, g) → ∀ (H : Heap) (locs : List Loc) (ls : Array Slot), uE D 52 gA (gO cs a) cs a F s g H locs → lv_has ls 7 [(0, .ref (a (1 + 10 * w))), (1, .ref (a 21)), (2, .int v2), (3, .int v3), (4, .int v4), (5, .int v5)] → W p l e rm_X1_readWants s m args below meth c H locs 0 0 (MQ below (va_Qi post (uB D (uW 52 gA (gO cs a) cs a)) F) args s 0 0 F) (F0 m 6 ls []) := by
    intro  v2 v3 v4 v5 g  hv
    obtain ⟨nn, hv⟩ := hv
    induction nn generalizing v2 v3 v4 v5 g with
    | zero => exact False.elim hv
    | succ nn hK6 =>
      intro H locs ls hE hl
      have hv : J_X1_readWants_6 w x2 x3 post (itP _ nn) v2 v3 v4 v5 g := hv
      unfold J_X1_readWants_6 at hv
      refine lv_iload hx hb dX1_readWants_6 (lv_at hl 5 rfl) ?_
      refine lv_aload_n hx hb dX1_readWants_8 rfl (lv_at hl 0 rfl) ?_
      refine G_get (v := .ref (a (4 + 10 * w))) hC hE (fun _ h => List.mem_cons_of_mem _ (List.mem_append_left _ (List.mem_append_left _ (List.mem_append_left _ (List.mem_append_left _ (List.mem_append_right _ h)))))) (f_field hw) rfl 1 (by decide) (hts (.fieldLink RX1 21 "SeedBattle$Field" "units" "LSeedBattle$Units;") (List.mem_of_getElem? (i := 1) rfl)) rfl dX1_readWants_9 ?_
      refine G_getN (v := .int (g.2 (3 + w))) hC hE (fun _ h => List.mem_cons_of_mem _ (List.mem_append_left _ (List.mem_append_left _ (List.mem_append_left _ (List.mem_append_right _ h))))) (f_units hw) rfl 4 (by decide) (List.mem_of_getElem? (i := 6) rfl) rfl dX1_readWants_12 ?_
      refine lv_icmp_ge (tgt := 85) hx hb dX1_readWants_15 (by decide) (fun c => ?_) (fun c => ?_)
      · have hv := hv.1 c
        refine lv_iload hx hb dX1_readWants_85 (lv_at hl 4 rfl) ?_
        exact G_zret hC hr hk hE hv.1 hv.2 dX1_readWants_87
      · have hv := hv.2 c
        refine lv_aload_n hx hb dX1_readWants_18 rfl (lv_at hl 0 rfl) ?_
        refine G_get (v := .ref (a (4 + 10 * w))) hC hE (fun _ h => List.mem_cons_of_mem _ (List.mem_append_left _ (List.mem_append_left _ (List.mem_append_left _ (List.mem_append_left _ (List.mem_append_right _ h)))))) (f_field hw) rfl 1 (by decide) (hts (.fieldLink RX1 21 "SeedBattle$Field" "units" "LSeedBattle$Units;") (List.mem_of_getElem? (i := 1) rfl)) rfl dX1_readWants_19 ?_
        refine lv_iload hx hb dX1_readWants_22 (lv_at hl 5 rfl) ?_
        refine G_callVi hC (c_X5_place l D cs az a (w := w) hw v5 g _ hv) (cwV 1 hts gX1_readWants_X5_place rfl rfl rfl (by decide +kernel) ⟨Nat.le_of_ble_eq_true rfl, Nat.le_of_ble_eq_true rfl⟩) (f_units hw) rfl rfl hl rfl (Nat.le_of_ble_eq_true rfl) dX1_readWants_24 hE (fun r2 g1 H locs hv hE => ?_)
        refine lv_istore (lv' := [(6, .int r2), (0, .ref (a (1 + 10 * w))), (1, .ref (a 21)), (2, .int v2), (3, .int v3), (4, .int v4), (5, .int v5)]) hx hb dX1_readWants_27 hl (by decide) rfl (fun ls hl => ?_)
        refine lv_aload_n hx hb dX1_readWants_29 rfl (lv_at hl 1 rfl) ?_
        refine G_get (v := .ref (a (9 + 10 * w))) hC hE (fun _ h => List.mem_cons_of_mem _ (List.mem_append_left _ (List.mem_append_left _ (List.mem_append_left _ (List.mem_append_left _ (List.mem_append_right _ h)))))) (f_field hw) rfl 2 (by decide) (hts (.fieldLink RX1 25 "SeedBattle$Field" "wants" "[I") (List.mem_of_getElem? (i := 2) rfl)) rfl dX1_readWants_30 ?_
        refine lv_iload hx hb dX1_readWants_33 (lv_at hl 6 rfl) ?_
        refine lv_iload hx hb dX1_readWants_35 (lv_at hl 0 rfl) ?_
        refine G_iast hC hE (f_wants hw) hv.1 dX1_readWants_37 (fun H locs hE => ?_)
        have hv := hv.2
        refine lv_iload hx hb dX1_readWants_38 (lv_at hl 0 rfl) ?_
        refine lv_iconst (v := (-1)) hx hb dX1_readWants_40 (by decide) ?_
        refine lv_icmp_eq (tgt := 79) hx hb dX1_readWants_41 (by decide) (fun c => ?_) (fun c => ?_)
        · have hv := hv.1 c
          exact j_79 _ hK6 _ _ _ _ _  hv _ _ _ hE (lv_sub hl [1, 2, 3, 4, 5, 6] rfl)
        · have hv := hv.2 c
          refine lv_aload_n hx hb dX1_readWants_44 rfl (lv_at hl 1 rfl) ?_
          refine G_get (v := .ref (a (9 + 10 * w))) hC hE (fun _ h => List.mem_cons_of_mem _ (List.mem_append_left _ (List.mem_append_left _ (List.mem_append_left _ (List.mem_append_left _ (List.mem_append_right _ h)))))) (f_field hw) rfl 2 (by decide) (hts (.fieldLink RX1 25 "SeedBattle$Field" "wants" "[I") (List.mem_of_getElem? (i := 2) rfl)) rfl dX1_readWants_45 ?_
          refine lv_iload hx hb dX1_readWants_48 (lv_at hl 6 rfl) ?_
          refine lv_aload_n hx hb dX1_readWants_50 rfl (lv_at hl 1 rfl) ?_
          refine G_get (v := .ref (a (2 + 10 * w))) hC hE (fun _ h => List.mem_cons_of_mem _ (List.mem_append_left _ (List.mem_append_left _ (List.mem_append_left _ (List.mem_append_left _ (List.mem_append_right _ h)))))) (f_field hw) rfl 0 (by decide) (hts (.fieldLink RX1 12 "SeedBattle$Field" "land" "LSeedBattle$Land;") (List.mem_of_getElem? (i := 3) rfl)) rfl dX1_readWants_51 ?_
          refine lv_iload hx hb dX1_readWants_54 (lv_at hl 0 rfl) ?_
          refine lv_aload_n hx hb dX1_readWants_56 rfl (lv_at hl 2 rfl) ?_
          refine lv_iload_n hx hb dX1_readWants_57 rfl (lv_at hl 3 rfl) ?_
          refine lv_iload hx hb dX1_readWants_58 (lv_at hl 6 rfl) ?_
          refine lv_iload_n hx hb dX1_readWants_60 rfl (lv_at hl 4 rfl) ?_
          refine G_callVi hC (c_X4_direction l D cs az a v2 v5 v3 (sA g1 (9 + 10 * w) (upd (g1.1 (9 + 10 * w)) (Int32.toNatClampNeg v5) r2)) _ hv) (cwV 3 hts gX1_readWants_X4_direction rfl rfl rfl (by decide +kernel) ⟨Nat.le_of_ble_eq_true rfl, Nat.le_of_ble_eq_true rfl⟩) f_orders rfl rfl hl rfl (Nat.le_of_ble_eq_true rfl) dX1_readWants_61 hE (fun r4 g3 H locs hv hE => ?_)
          refine G_callVi hC (c_X3_beside l D cs az a (w := w) hw r2 r4 g3 _ hv) (cwV 2 hts gX1_readWants_X3_beside rfl rfl rfl (by decide +kernel) ⟨Nat.le_of_ble_eq_true rfl, Nat.le_of_ble_eq_true rfl⟩) (f_land hw) rfl rfl hl rfl (Nat.le_of_ble_eq_true rfl) dX1_readWants_64 hE (fun r6 g5 H locs hv hE => ?_)
          refine G_iast hC hE (f_wants hw) hv.1 dX1_readWants_67 (fun H locs hE => ?_)
          have hv := hv.2
          refine lv_iload hx hb dX1_readWants_68 (lv_at hl 5 rfl) ?_
          refine lv_aload_n hx hb dX1_readWants_70 rfl (lv_at hl 1 rfl) ?_
          refine lv_iload hx hb dX1_readWants_71 (lv_at hl 6 rfl) ?_
          refine G_callVi hC (c_X1_isMover l D cs az a (w := w) hw v5 (sA g5 (9 + 10 * w) (upd (g5.1 (9 + 10 * w)) (Int32.toNatClampNeg v5) r6)) _ hv) (cwV 1 hts gX1_readWants_X1_isMover rfl rfl rfl (by decide +kernel) ⟨Nat.le_of_ble_eq_true rfl, Nat.le_of_ble_eq_true rfl⟩) (f_field hw) rfl rfl hl rfl (Nat.le_of_ble_eq_true rfl) dX1_readWants_73 hE (fun r8 g7 H locs hv hE => ?_)
          refine lv_ior hx hb dX1_readWants_76 ?_
          refine lv_istore (lv' := [(4, .int (v4 ||| r8)), (6, .int r2), (0, .ref (a (1 + 10 * w))), (1, .ref (a 21)), (2, .int v2), (3, .int v3), (5, .int v5)]) hx hb dX1_readWants_77 hl (by decide) rfl (fun ls hl => ?_)
          exact j_79 _ hK6 _ _ _ _ _  hv _ _ _ hE (lv_sub hl [2, 3, 4, 5, 0, 6] rfl)
  refine lv_iconst (v := 0) hx hb dX1_readWants_0 (by decide) ?_
  refine lv_istore (lv' := [(4, .int 0), (0, .ref (a (1 + 10 * w))), (1, .ref (a 21)), (2, .int x2), (3, .int x3)]) hx hb dX1_readWants_1 hl (by decide) rfl (fun ls hl => ?_)
  refine lv_iconst (v := 0) hx hb dX1_readWants_3 (by decide) ?_
  refine lv_istore (lv' := [(5, .int 0), (4, .int 0), (0, .ref (a (1 + 10 * w))), (1, .ref (a 21)), (2, .int x2), (3, .int x3)]) hx hb dX1_readWants_4 hl (by decide) rfl (fun ls hl => ?_)
  exact j_6  _ _ _ _ _  hv _ _ _ hE (lv_sub hl [2, 3, 4, 5, 1, 0] rfl)
def J_X1_isContested_28 (w : Nat) (x1 : Int32) (post : Int32 → St → Prop) (K4 : (Int32 × Int32 × Int32 × St) → Prop) (v1 : Int32) (v2 : Int32) (v3 : Int32) (g : St) : Prop := K4 (v1, v2, (v3 + 1), g)
def J_X1_isContested_4 (w : Nat) (x1 : Int32) (post : Int32 → St → Prop) (K4 : (Int32 × Int32 × Int32 × St) → Prop) (v1 : Int32) (v2 : Int32) (v3 : Int32) (g : St) : Prop := (((g.2 (3 + w)) ≤ v3 → ((v2 ≤ 1 → post 0 g) ∧ (¬ v2 ≤ 1 → post 1 g))) ∧ (¬ (g.2 (3 + w)) ≤ v3 → vp_in v3 24 ∧ (((¬ (g.1 (9 + 10 * w) (Int32.toNatClampNeg v3)) = v1 → J_X1_isContested_28 w x1 post K4 v1 v2 v3 g) ∧ ((g.1 (9 + 10 * w) (Int32.toNatClampNeg v3)) = v1 → J_X1_isContested_28 w x1 post K4 v1 (v2 + 1) v3 g)))))
def V_X1_isContested (w : Nat) (x1 : Int32) (g : St) (post : Int32 → St → Prop) : Prop := lpP (fun K4 (z : Int32 × Int32 × Int32 × St) => J_X1_isContested_4 w x1 post K4 z.1 z.2.1 z.2.2.1 z.2.2.2) (x1, 0, 0, g)
abbrev rm_X1_isContested : Room := { frames := 0, cells := 0, slots := 0, locals := 0 }
set_option maxHeartbeats 4000000 in
set_option maxRecDepth 100000 in
theorem c_X1_isContested (l : Launch) (D : va_G) (cs az a : Nat → Nat) {w : Nat} (hw : w < 2) (x1 : Int32) (g : St) (post : Int32 → St → Prop) (hv : V_X1_isContested w x1 g post) : uMi l yX1_isContested wsX1_isContested rm_X1_isContested D cs az (gW cs a) [.ref (a (1 + 10 * w)), .int x1] g post := by
  refine u_ofI (cc := cX1_isContested) (maxL := 4) (by decide) rfl (Nat.le_of_ble_eq_true rfl) ?_
  intro p e s m args below meth c F ls hC hr hk hl hE
  have hx := hC.1.1; have hb := hC.1.2.1; have hml := hC.1.2.2.1; have hts := hC.1.2.2.2.2
  have hown : s.vm.findClass RX1 = some m.cls := hC.1.2.2.2.1
  have hl : lv_has ls 4 [(0, .ref (a (1 + 10 * w))), (1, .int x1)] := hl
  unfold V_X1_isContested at hv
  have j_28 : ∀ (K4 : (Int32 × Int32 × Int32 × St) → Prop), (∀ (v1 : Int32) (v2 : Int32) (v3 : Int32) (g : St), K4 (v1, v2, v3, g) → ∀ (H : Heap) (locs : List Loc) (ls : Array Slot), uE D 52 gA (gO cs a) cs a F s g H locs → lv_has ls 4 [(0, .ref (a (1 + 10 * w))), (1, .int v1), (2, .int v2), (3, .int v3)] → W p l e rm_X1_isContested s m args below meth c H locs 0 0 (MQ below (va_Qi post (uB D (uW 52 gA (gO cs a) cs a)) F) args s 0 0 F) (F0 m 4 ls [])) → ∀ (v1 : Int32) (v2 : Int32) (v3 : Int32) (g : St), J_X1_isContested_28 w x1 post K4 v1 v2 v3 g → ∀ (H : Heap) (locs : List Loc) (ls : Array Slot), uE D 52 gA (gO cs a) cs a F s g H locs → lv_has ls 4 [(0, .ref (a (1 + 10 * w))), (1, .int v1), (2, .int v2), (3, .int v3)] → W p l e rm_X1_isContested s m args below meth c H locs 0 0 (MQ below (va_Qi post (uB D (uW 52 gA (gO cs a) cs a)) F) args s 0 0 F) (F0 m 28 ls []) := by
    intro K4 hK4 v1 v2 v3 g  hv
    intro H locs ls hE hl
    unfold J_X1_isContested_28 at hv
    refine lv_iinc (v := (v3 + 1)) (lv' := [(3, .int (v3 + 1)), (0, .ref (a (1 + 10 * w))), (1, .int v1), (2, .int v2)]) hx hb dX1_isContested_28 hl (k := 3) rfl rfl (by decide) rfl (fun ls hl => ?_)
    refine lv_goto (tgt := 4) hx hb dX1_isContested_31 (by decide) ?_
    exact hK4 _ _ _ _  hv _ _ _ hE (lv_sub hl [1, 2, 3, 0] rfl)
  have j_4 : ∀ (v1 : Int32) (v2 : Int32) (v3 : Int32) (g : St), lpP (fun K4 (z : Int32 × Int32 × Int32 × St) => J_X1_isContested_4 w x1 post K4 z.1 z.2.1 z.2.2.1 z.2.2.2) (v1, v2, v3, g) → ∀ (H : Heap) (locs : List Loc) (ls : Array Slot), uE D 52 gA (gO cs a) cs a F s g H locs → lv_has ls 4 [(0, .ref (a (1 + 10 * w))), (1, .int v1), (2, .int v2), (3, .int v3)] → W p l e rm_X1_isContested s m args below meth c H locs 0 0 (MQ below (va_Qi post (uB D (uW 52 gA (gO cs a) cs a)) F) args s 0 0 F) (F0 m 4 ls []) := by
    intro  v1 v2 v3 g  hv
    obtain ⟨nn, hv⟩ := hv
    induction nn generalizing v1 v2 v3 g with
    | zero => exact False.elim hv
    | succ nn hK4 =>
      intro H locs ls hE hl
      have hv : J_X1_isContested_4 w x1 post (itP _ nn) v1 v2 v3 g := hv
      unfold J_X1_isContested_4 at hv
      refine lv_iload_n hx hb dX1_isContested_4 rfl (lv_at hl 3 rfl) ?_
      refine lv_aload_n hx hb dX1_isContested_5 rfl (lv_at hl 0 rfl) ?_
      refine G_get (v := .ref (a (4 + 10 * w))) hC hE (fun _ h => List.mem_cons_of_mem _ (List.mem_append_left _ (List.mem_append_left _ (List.mem_append_right _ h)))) (f_field hw) rfl 1 (by decide) (hts (.fieldLink RX1 21 "SeedBattle$Field" "units" "LSeedBattle$Units;") (List.mem_of_getElem? (i := 1) rfl)) rfl dX1_isContested_6 ?_
      refine G_getN (v := .int (g.2 (3 + w))) hC hE (fun _ h => List.mem_cons_of_mem _ (List.mem_append_left _ (List.mem_append_right _ h))) (f_units hw) rfl 4 (by decide) (List.mem_of_getElem? (i := 6) rfl) rfl dX1_isContested_9 ?_
      refine lv_icmp_ge (tgt := 34) hx hb dX1_isContested_12 (by decide) (fun c => ?_) (fun c => ?_)
      · have hv := hv.1 c
        refine lv_iload_n hx hb dX1_isContested_34 rfl (lv_at hl 2 rfl) ?_
        refine lv_iconst (v := 1) hx hb dX1_isContested_35 (by decide) ?_
        refine lv_icmp_le (tgt := 43) hx hb dX1_isContested_36 (by decide) (fun c => ?_) (fun c => ?_)
        · have hv := hv.1 c
          refine lv_iconst (v := 0) hx hb dX1_isContested_43 (by decide) ?_
          exact G_zret hC hr hk hE rfl hv dX1_isContested_44
        · have hv := hv.2 c
          refine lv_iconst (v := 1) hx hb dX1_isContested_39 (by decide) ?_
          refine lv_goto (tgt := 44) hx hb dX1_isContested_40 (by decide) ?_
          exact G_zret hC hr hk hE rfl hv dX1_isContested_44
      · have hv := hv.2 c
        refine lv_aload_n hx hb dX1_isContested_15 rfl (lv_at hl 0 rfl) ?_
        refine G_get (v := .ref (a (9 + 10 * w))) hC hE (fun _ h => List.mem_cons_of_mem _ (List.mem_append_left _ (List.mem_append_left _ (List.mem_append_right _ h)))) (f_field hw) rfl 2 (by decide) (hts (.fieldLink RX1 25 "SeedBattle$Field" "wants" "[I") (List.mem_of_getElem? (i := 2) rfl)) rfl dX1_isContested_16 ?_
        refine lv_iload_n hx hb dX1_isContested_19 rfl (lv_at hl 3 rfl) ?_
        refine G_iald hC hE (f_wants hw) hv.1 dX1_isContested_20 ?_
        have hv := hv.2
        refine lv_iload_n hx hb dX1_isContested_21 rfl (lv_at hl 1 rfl) ?_
        refine lv_icmp_ne (tgt := 28) hx hb dX1_isContested_22 (by decide) (fun c => ?_) (fun c => ?_)
        · have hv := hv.1 c
          exact j_28 _ hK4 _ _ _ _  hv _ _ _ hE (lv_sub hl [0, 1, 2, 3] rfl)
        · have hv := hv.2 c
          refine lv_iinc (v := (v2 + 1)) (lv' := [(2, .int (v2 + 1)), (0, .ref (a (1 + 10 * w))), (1, .int v1), (3, .int v3)]) hx hb dX1_isContested_25 hl (k := 2) rfl rfl (by decide) rfl (fun ls hl => ?_)
          exact j_28 _ hK4 _ _ _ _  hv _ _ _ hE (lv_sub hl [1, 2, 0, 3] rfl)
  refine lv_iconst (v := 0) hx hb dX1_isContested_0 (by decide) ?_
  refine lv_istore_n (lv' := [(2, .int 0), (0, .ref (a (1 + 10 * w))), (1, .int x1)]) hx hb dX1_isContested_1 rfl hl (by decide) rfl (fun ls hl => ?_)
  refine lv_iconst (v := 0) hx hb dX1_isContested_2 (by decide) ?_
  refine lv_istore_n (lv' := [(3, .int 0), (2, .int 0), (0, .ref (a (1 + 10 * w))), (1, .int x1)]) hx hb dX1_isContested_3 rfl hl (by decide) rfl (fun ls hl => ?_)
  exact j_4  _ _ _ _  hv _ _ _ hE (lv_sub hl [2, 3, 1, 0] rfl)
def J_X1_lowestContested_54 (w : Nat) (post : Int32 → St → Prop) (K5 : (Int32 × Int32 × St) → Prop) (v1 : Int32) (v2 : Int32) (g : St) : Prop := K5 (v1, (v2 + 1), g)
def J_X1_lowestContested_5 (w : Nat) (post : Int32 → St → Prop) (K5 : (Int32 × Int32 × St) → Prop) (v1 : Int32) (v2 : Int32) (g : St) : Prop := (((g.2 (3 + w)) ≤ v2 → ((¬ v1 = 64 → post v1 g) ∧ (v1 = 64 → post (-1) g))) ∧ (¬ (g.2 (3 + w)) ≤ v2 → V_X1_isMover w v2 g (fun r2 g1 => ((r2 = 0 → J_X1_lowestContested_54 w post K5 v1 v2 g1) ∧ (¬ r2 = 0 → vp_in v2 24 ∧ (((v1 ≤ (g1.1 (9 + 10 * w) (Int32.toNatClampNeg v2)) → J_X1_lowestContested_54 w post K5 v1 v2 g1) ∧ (¬ v1 ≤ (g1.1 (9 + 10 * w) (Int32.toNatClampNeg v2)) → vp_in v2 24 ∧ (V_X1_isContested w (g1.1 (9 + 10 * w) (Int32.toNatClampNeg v2)) g1 (fun r4 g3 => ((r4 = 0 → J_X1_lowestContested_54 w post K5 v1 v2 g3) ∧ (¬ r4 = 0 → vp_in v2 24 ∧ (J_X1_lowestContested_54 w post K5 (g3.1 (9 + 10 * w) (Int32.toNatClampNeg v2)) v2 g3)))))))))))))
def V_X1_lowestContested (w : Nat) (g : St) (post : Int32 → St → Prop) : Prop := lpP (fun K5 (z : Int32 × Int32 × St) => J_X1_lowestContested_5 w post K5 z.1 z.2.1 z.2.2) (64, 0, g)
abbrev rm_X1_lowestContested : Room := { frames := 2, cells := 0, slots := 0, locals := 42 }
set_option maxHeartbeats 4000000 in
set_option maxRecDepth 100000 in
theorem c_X1_lowestContested (l : Launch) (D : va_G) (cs az a : Nat → Nat) {w : Nat} (hw : w < 2)  (g : St) (post : Int32 → St → Prop) (hv : V_X1_lowestContested w g post) : uMi l yX1_lowestContested wsX1_lowestContested rm_X1_lowestContested D cs az (gW cs a) [.ref (a (1 + 10 * w))] g post := by
  refine u_ofI (cc := cX1_lowestContested) (maxL := 3) (by decide) rfl (Nat.le_of_ble_eq_true rfl) ?_
  intro p e s m args below meth c F ls hC hr hk hl hE
  have hx := hC.1.1; have hb := hC.1.2.1; have hml := hC.1.2.2.1; have hts := hC.1.2.2.2.2
  have hown : s.vm.findClass RX1 = some m.cls := hC.1.2.2.2.1
  have hl : lv_has ls 3 [(0, .ref (a (1 + 10 * w)))] := hl
  unfold V_X1_lowestContested at hv
  have j_54 : ∀ (K5 : (Int32 × Int32 × St) → Prop), (∀ (v1 : Int32) (v2 : Int32) (g : St), K5 (v1, v2, g) → ∀ (H : Heap) (locs : List Loc) (ls : Array Slot), uE D 52 gA (gO cs a) cs a F s g H locs → lv_has ls 3 [(0, .ref (a (1 + 10 * w))), (1, .int v1), (2, .int v2)] → W p l e rm_X1_lowestContested s m args below meth c H locs 0 0 (MQ below (va_Qi post (uB D (uW 52 gA (gO cs a) cs a)) F) args s 0 0 F) (F0 m 5 ls [])) → ∀ (v1 : Int32) (v2 : Int32) (g : St), J_X1_lowestContested_54 w post K5 v1 v2 g → ∀ (H : Heap) (locs : List Loc) (ls : Array Slot), uE D 52 gA (gO cs a) cs a F s g H locs → lv_has ls 3 [(0, .ref (a (1 + 10 * w))), (1, .int v1), (2, .int v2)] → W p l e rm_X1_lowestContested s m args below meth c H locs 0 0 (MQ below (va_Qi post (uB D (uW 52 gA (gO cs a) cs a)) F) args s 0 0 F) (F0 m 54 ls []) := by
    intro K5 hK5 v1 v2 g  hv
    intro H locs ls hE hl
    unfold J_X1_lowestContested_54 at hv
    refine lv_iinc (v := (v2 + 1)) (lv' := [(2, .int (v2 + 1)), (0, .ref (a (1 + 10 * w))), (1, .int v1)]) hx hb dX1_lowestContested_54 hl (k := 2) rfl rfl (by decide) rfl (fun ls hl => ?_)
    refine lv_goto (tgt := 5) hx hb dX1_lowestContested_57 (by decide) ?_
    exact hK5 _ _ _  hv _ _ _ hE (lv_sub hl [1, 2, 0] rfl)
  have j_5 : ∀ (v1 : Int32) (v2 : Int32) (g : St), lpP (fun K5 (z : Int32 × Int32 × St) => J_X1_lowestContested_5 w post K5 z.1 z.2.1 z.2.2) (v1, v2, g) → ∀ (H : Heap) (locs : List Loc) (ls : Array Slot), uE D 52 gA (gO cs a) cs a F s g H locs → lv_has ls 3 [(0, .ref (a (1 + 10 * w))), (1, .int v1), (2, .int v2)] → W p l e rm_X1_lowestContested s m args below meth c H locs 0 0 (MQ below (va_Qi post (uB D (uW 52 gA (gO cs a) cs a)) F) args s 0 0 F) (F0 m 5 ls []) := by
    intro  v1 v2 g  hv
    obtain ⟨nn, hv⟩ := hv
    induction nn generalizing v1 v2 g with
    | zero => exact False.elim hv
    | succ nn hK5 =>
      intro H locs ls hE hl
      have hv : J_X1_lowestContested_5 w post (itP _ nn) v1 v2 g := hv
      unfold J_X1_lowestContested_5 at hv
      refine lv_iload_n hx hb dX1_lowestContested_5 rfl (lv_at hl 2 rfl) ?_
      refine lv_aload_n hx hb dX1_lowestContested_6 rfl (lv_at hl 0 rfl) ?_
      refine G_get (v := .ref (a (4 + 10 * w))) hC hE (fun _ h => List.mem_cons_of_mem _ (List.mem_append_left _ (List.mem_append_left _ (List.mem_append_right _ h)))) (f_field hw) rfl 1 (by decide) (hts (.fieldLink RX1 21 "SeedBattle$Field" "units" "LSeedBattle$Units;") (List.mem_of_getElem? (i := 1) rfl)) rfl dX1_lowestContested_7 ?_
      refine G_getN (v := .int (g.2 (3 + w))) hC hE (fun _ h => List.mem_cons_of_mem _ (List.mem_append_left _ (List.mem_append_right _ h))) (f_units hw) rfl 4 (by decide) (List.mem_of_getElem? (i := 6) rfl) rfl dX1_lowestContested_10 ?_
      refine lv_icmp_ge (tgt := 60) hx hb dX1_lowestContested_13 (by decide) (fun c => ?_) (fun c => ?_)
      · have hv := hv.1 c
        refine lv_iload_n hx hb dX1_lowestContested_60 rfl (lv_at hl 1 rfl) ?_
        refine lv_bipush (v := 64) hx hb dX1_lowestContested_61 (by decide) ?_
        refine lv_icmp_ne (tgt := 70) hx hb dX1_lowestContested_63 (by decide) (fun c => ?_) (fun c => ?_)
        · have hv := hv.1 c
          refine lv_iload_n hx hb dX1_lowestContested_70 rfl (lv_at hl 1 rfl) ?_
          exact G_iret hC hr hk hE hv dX1_lowestContested_71
        · have hv := hv.2 c
          refine lv_iconst (v := (-1)) hx hb dX1_lowestContested_66 (by decide) ?_
          refine lv_goto (tgt := 71) hx hb dX1_lowestContested_67 (by decide) ?_
          exact G_iret hC hr hk hE hv dX1_lowestContested_71
      · have hv := hv.2 c
        refine lv_aload_n hx hb dX1_lowestContested_16 rfl (lv_at hl 0 rfl) ?_
        refine lv_iload_n hx hb dX1_lowestContested_17 rfl (lv_at hl 2 rfl) ?_
        refine G_callVi hC (c_X1_isMover l D cs az a (w := w) hw v2 g _ hv) (cwV 1 hts gX1_lowestContested_X1_isMover rfl rfl rfl (by decide +kernel) ⟨Nat.le_of_ble_eq_true rfl, Nat.le_of_ble_eq_true rfl⟩) (f_field hw) rfl rfl hl rfl (Nat.le_of_ble_eq_true rfl) dX1_lowestContested_18 hE (fun r2 g1 H locs hv hE => ?_)
        refine lv_if_eq (tgt := 54) hx hb dX1_lowestContested_21 (by decide) (fun c => ?_) (fun c => ?_)
        · have hv := hv.1 c
          exact j_54 _ hK5 _ _ _  hv _ _ _ hE (lv_sub hl [0, 1, 2] rfl)
        · have hv := hv.2 c
          refine lv_aload_n hx hb dX1_lowestContested_24 rfl (lv_at hl 0 rfl) ?_
          refine G_get (v := .ref (a (9 + 10 * w))) hC hE (fun _ h => List.mem_cons_of_mem _ (List.mem_append_left _ (List.mem_append_left _ (List.mem_append_right _ h)))) (f_field hw) rfl 2 (by decide) (hts (.fieldLink RX1 25 "SeedBattle$Field" "wants" "[I") (List.mem_of_getElem? (i := 2) rfl)) rfl dX1_lowestContested_25 ?_
          refine lv_iload_n hx hb dX1_lowestContested_28 rfl (lv_at hl 2 rfl) ?_
          refine G_iald hC hE (f_wants hw) hv.1 dX1_lowestContested_29 ?_
          have hv := hv.2
          refine lv_iload_n hx hb dX1_lowestContested_30 rfl (lv_at hl 1 rfl) ?_
          refine lv_icmp_ge (tgt := 54) hx hb dX1_lowestContested_31 (by decide) (fun c => ?_) (fun c => ?_)
          · have hv := hv.1 c
            exact j_54 _ hK5 _ _ _  hv _ _ _ hE (lv_sub hl [0, 1, 2] rfl)
          · have hv := hv.2 c
            refine lv_aload_n hx hb dX1_lowestContested_34 rfl (lv_at hl 0 rfl) ?_
            refine lv_aload_n hx hb dX1_lowestContested_35 rfl (lv_at hl 0 rfl) ?_
            refine G_get (v := .ref (a (9 + 10 * w))) hC hE (fun _ h => List.mem_cons_of_mem _ (List.mem_append_left _ (List.mem_append_left _ (List.mem_append_right _ h)))) (f_field hw) rfl 2 (by decide) (hts (.fieldLink RX1 25 "SeedBattle$Field" "wants" "[I") (List.mem_of_getElem? (i := 2) rfl)) rfl dX1_lowestContested_36 ?_
            refine lv_iload_n hx hb dX1_lowestContested_39 rfl (lv_at hl 2 rfl) ?_
            refine G_iald hC hE (f_wants hw) hv.1 dX1_lowestContested_40 ?_
            have hv := hv.2
            refine G_callVi hC (c_X1_isContested l D cs az a (w := w) hw (g1.1 (9 + 10 * w) (Int32.toNatClampNeg v2)) g1 _ hv) (cwV 1 hts gX1_lowestContested_X1_isContested rfl rfl rfl (by decide +kernel) ⟨Nat.le_of_ble_eq_true rfl, Nat.le_of_ble_eq_true rfl⟩) (f_field hw) rfl rfl hl rfl (Nat.le_of_ble_eq_true rfl) dX1_lowestContested_41 hE (fun r4 g3 H locs hv hE => ?_)
            refine lv_if_eq (tgt := 54) hx hb dX1_lowestContested_44 (by decide) (fun c => ?_) (fun c => ?_)
            · have hv := hv.1 c
              exact j_54 _ hK5 _ _ _  hv _ _ _ hE (lv_sub hl [0, 1, 2] rfl)
            · have hv := hv.2 c
              refine lv_aload_n hx hb dX1_lowestContested_47 rfl (lv_at hl 0 rfl) ?_
              refine G_get (v := .ref (a (9 + 10 * w))) hC hE (fun _ h => List.mem_cons_of_mem _ (List.mem_append_left _ (List.mem_append_left _ (List.mem_append_right _ h)))) (f_field hw) rfl 2 (by decide) (hts (.fieldLink RX1 25 "SeedBattle$Field" "wants" "[I") (List.mem_of_getElem? (i := 2) rfl)) rfl dX1_lowestContested_48 ?_
              refine lv_iload_n hx hb dX1_lowestContested_51 rfl (lv_at hl 2 rfl) ?_
              refine G_iald hC hE (f_wants hw) hv.1 dX1_lowestContested_52 ?_
              have hv := hv.2
              refine lv_istore_n (lv' := [(1, .int (g3.1 (9 + 10 * w) (Int32.toNatClampNeg v2))), (0, .ref (a (1 + 10 * w))), (2, .int v2)]) hx hb dX1_lowestContested_53 rfl hl (by decide) rfl (fun ls hl => ?_)
              exact j_54 _ hK5 _ _ _  hv _ _ _ hE (lv_sub hl [1, 0, 2] rfl)
  refine lv_bipush (v := 64) hx hb dX1_lowestContested_0 (by decide) ?_
  refine lv_istore_n (lv' := [(1, .int 64), (0, .ref (a (1 + 10 * w)))]) hx hb dX1_lowestContested_2 rfl hl (by decide) rfl (fun ls hl => ?_)
  refine lv_iconst (v := 0) hx hb dX1_lowestContested_3 (by decide) ?_
  refine lv_istore_n (lv' := [(2, .int 0), (1, .int 64), (0, .ref (a (1 + 10 * w)))]) hx hb dX1_lowestContested_4 rfl hl (by decide) rfl (fun ls hl => ?_)
  exact j_5  _ _ _  hv _ _ _ hE (lv_sub hl [2, 1, 0] rfl)
def J_X1_firstMover_37 (w : Nat) (x1 : Int32) (x2 : Int32) (post : Int32 → St → Prop) (K2 : (Int32 × Int32 × Int32 × St) → Prop) (v1 : Int32) (v2 : Int32) (v3 : Int32) (g : St) : Prop := K2 (v1, v2, (v3 + 1), g)
def J_X1_firstMover_2 (w : Nat) (x1 : Int32) (x2 : Int32) (post : Int32 → St → Prop) (K2 : (Int32 × Int32 × Int32 × St) → Prop) (v1 : Int32) (v2 : Int32) (v3 : Int32) (g : St) : Prop := (((g.2 (3 + w)) ≤ v3 → post (-1) g) ∧ (¬ (g.2 (3 + w)) ≤ v3 → vp_in v3 24 ∧ (((¬ (g.1 (9 + 10 * w) (Int32.toNatClampNeg v3)) = v1 → J_X1_firstMover_37 w x1 x2 post K2 v1 v2 v3 g) ∧ ((g.1 (9 + 10 * w) (Int32.toNatClampNeg v3)) = v1 → V_X5_owner w v3 g (fun r2 g1 => ((¬ r2 = v2 → J_X1_firstMover_37 w x1 x2 post K2 v1 v2 v3 g1) ∧ (r2 = v2 → post v3 g1))))))))
def V_X1_firstMover (w : Nat) (x1 : Int32) (x2 : Int32) (g : St) (post : Int32 → St → Prop) : Prop := lpP (fun K2 (z : Int32 × Int32 × Int32 × St) => J_X1_firstMover_2 w x1 x2 post K2 z.1 z.2.1 z.2.2.1 z.2.2.2) (x1, x2, 0, g)
abbrev rm_X1_firstMover : Room := { frames := 1, cells := 0, slots := 0, locals := 21 }
set_option maxHeartbeats 4000000 in
set_option maxRecDepth 100000 in
theorem c_X1_firstMover (l : Launch) (D : va_G) (cs az a : Nat → Nat) {w : Nat} (hw : w < 2) (x1 : Int32) (x2 : Int32) (g : St) (post : Int32 → St → Prop) (hv : V_X1_firstMover w x1 x2 g post) : uMi l yX1_firstMover wsX1_firstMover rm_X1_firstMover D cs az (gW cs a) [.ref (a (1 + 10 * w)), .int x1, .int x2] g post := by
  refine u_ofI (cc := cX1_firstMover) (maxL := 4) (by decide) rfl (Nat.le_of_ble_eq_true rfl) ?_
  intro p e s m args below meth c F ls hC hr hk hl hE
  have hx := hC.1.1; have hb := hC.1.2.1; have hml := hC.1.2.2.1; have hts := hC.1.2.2.2.2
  have hown : s.vm.findClass RX1 = some m.cls := hC.1.2.2.2.1
  have hl : lv_has ls 4 [(0, .ref (a (1 + 10 * w))), (1, .int x1), (2, .int x2)] := hl
  unfold V_X1_firstMover at hv
  have j_37 : ∀ (K2 : (Int32 × Int32 × Int32 × St) → Prop), (∀ (v1 : Int32) (v2 : Int32) (v3 : Int32) (g : St), K2 (v1, v2, v3, g) → ∀ (H : Heap) (locs : List Loc) (ls : Array Slot), uE D 52 gA (gO cs a) cs a F s g H locs → lv_has ls 4 [(0, .ref (a (1 + 10 * w))), (1, .int v1), (2, .int v2), (3, .int v3)] → W p l e rm_X1_firstMover s m args below meth c H locs 0 0 (MQ below (va_Qi post (uB D (uW 52 gA (gO cs a) cs a)) F) args s 0 0 F) (F0 m 2 ls [])) → ∀ (v1 : Int32) (v2 : Int32) (v3 : Int32) (g : St), J_X1_firstMover_37 w x1 x2 post K2 v1 v2 v3 g → ∀ (H : Heap) (locs : List Loc) (ls : Array Slot), uE D 52 gA (gO cs a) cs a F s g H locs → lv_has ls 4 [(0, .ref (a (1 + 10 * w))), (1, .int v1), (2, .int v2), (3, .int v3)] → W p l e rm_X1_firstMover s m args below meth c H locs 0 0 (MQ below (va_Qi post (uB D (uW 52 gA (gO cs a) cs a)) F) args s 0 0 F) (F0 m 37 ls []) := by
    intro K2 hK2 v1 v2 v3 g  hv
    intro H locs ls hE hl
    unfold J_X1_firstMover_37 at hv
    refine lv_iinc (v := (v3 + 1)) (lv' := [(3, .int (v3 + 1)), (0, .ref (a (1 + 10 * w))), (1, .int v1), (2, .int v2)]) hx hb dX1_firstMover_37 hl (k := 3) rfl rfl (by decide) rfl (fun ls hl => ?_)
    refine lv_goto (tgt := 2) hx hb dX1_firstMover_40 (by decide) ?_
    exact hK2 _ _ _ _  hv _ _ _ hE (lv_sub hl [1, 2, 3, 0] rfl)
  have j_2 : ∀ (v1 : Int32) (v2 : Int32) (v3 : Int32) (g : St), lpP (fun K2 (z : Int32 × Int32 × Int32 × St) => J_X1_firstMover_2 w x1 x2 post K2 z.1 z.2.1 z.2.2.1 z.2.2.2) (v1, v2, v3, g) → ∀ (H : Heap) (locs : List Loc) (ls : Array Slot), uE D 52 gA (gO cs a) cs a F s g H locs → lv_has ls 4 [(0, .ref (a (1 + 10 * w))), (1, .int v1), (2, .int v2), (3, .int v3)] → W p l e rm_X1_firstMover s m args below meth c H locs 0 0 (MQ below (va_Qi post (uB D (uW 52 gA (gO cs a) cs a)) F) args s 0 0 F) (F0 m 2 ls []) := by
    intro  v1 v2 v3 g  hv
    obtain ⟨nn, hv⟩ := hv
    induction nn generalizing v1 v2 v3 g with
    | zero => exact False.elim hv
    | succ nn hK2 =>
      intro H locs ls hE hl
      have hv : J_X1_firstMover_2 w x1 x2 post (itP _ nn) v1 v2 v3 g := hv
      unfold J_X1_firstMover_2 at hv
      refine lv_iload_n hx hb dX1_firstMover_2 rfl (lv_at hl 3 rfl) ?_
      refine lv_aload_n hx hb dX1_firstMover_3 rfl (lv_at hl 0 rfl) ?_
      refine G_get (v := .ref (a (4 + 10 * w))) hC hE (fun _ h => List.mem_cons_of_mem _ (List.mem_append_left _ (List.mem_append_left _ (List.mem_append_right _ h)))) (f_field hw) rfl 1 (by decide) (hts (.fieldLink RX1 21 "SeedBattle$Field" "units" "LSeedBattle$Units;") (List.mem_of_getElem? (i := 1) rfl)) rfl dX1_firstMover_4 ?_
      refine G_getN (v := .int (g.2 (3 + w))) hC hE (fun _ h => List.mem_cons_of_mem _ (List.mem_append_left _ (List.mem_append_right _ h))) (f_units hw) rfl 4 (by decide) (List.mem_of_getElem? (i := 6) rfl) rfl dX1_firstMover_7 ?_
      refine lv_icmp_ge (tgt := 43) hx hb dX1_firstMover_10 (by decide) (fun c => ?_) (fun c => ?_)
      · have hv := hv.1 c
        refine lv_iconst (v := (-1)) hx hb dX1_firstMover_43 (by decide) ?_
        exact G_iret hC hr hk hE hv dX1_firstMover_44
      · have hv := hv.2 c
        refine lv_aload_n hx hb dX1_firstMover_13 rfl (lv_at hl 0 rfl) ?_
        refine G_get (v := .ref (a (9 + 10 * w))) hC hE (fun _ h => List.mem_cons_of_mem _ (List.mem_append_left _ (List.mem_append_left _ (List.mem_append_right _ h)))) (f_field hw) rfl 2 (by decide) (hts (.fieldLink RX1 25 "SeedBattle$Field" "wants" "[I") (List.mem_of_getElem? (i := 2) rfl)) rfl dX1_firstMover_14 ?_
        refine lv_iload_n hx hb dX1_firstMover_17 rfl (lv_at hl 3 rfl) ?_
        refine G_iald hC hE (f_wants hw) hv.1 dX1_firstMover_18 ?_
        have hv := hv.2
        refine lv_iload_n hx hb dX1_firstMover_19 rfl (lv_at hl 1 rfl) ?_
        refine lv_icmp_ne (tgt := 37) hx hb dX1_firstMover_20 (by decide) (fun c => ?_) (fun c => ?_)
        · have hv := hv.1 c
          exact j_37 _ hK2 _ _ _ _  hv _ _ _ hE (lv_sub hl [0, 1, 2, 3] rfl)
        · have hv := hv.2 c
          refine lv_aload_n hx hb dX1_firstMover_23 rfl (lv_at hl 0 rfl) ?_
          refine G_get (v := .ref (a (4 + 10 * w))) hC hE (fun _ h => List.mem_cons_of_mem _ (List.mem_append_left _ (List.mem_append_left _ (List.mem_append_right _ h)))) (f_field hw) rfl 1 (by decide) (hts (.fieldLink RX1 21 "SeedBattle$Field" "units" "LSeedBattle$Units;") (List.mem_of_getElem? (i := 1) rfl)) rfl dX1_firstMover_24 ?_
          refine lv_iload_n hx hb dX1_firstMover_27 rfl (lv_at hl 3 rfl) ?_
          refine G_callVi hC (c_X5_owner l D cs az a (w := w) hw v3 g _ hv) (cwV 1 hts gX1_firstMover_X5_owner rfl rfl rfl (by decide +kernel) ⟨Nat.le_of_ble_eq_true rfl, Nat.le_of_ble_eq_true rfl⟩) (f_units hw) rfl rfl hl rfl (Nat.le_of_ble_eq_true rfl) dX1_firstMover_28 hE (fun r2 g1 H locs hv hE => ?_)
          refine lv_iload_n hx hb dX1_firstMover_31 rfl (lv_at hl 2 rfl) ?_
          refine lv_icmp_ne (tgt := 37) hx hb dX1_firstMover_32 (by decide) (fun c => ?_) (fun c => ?_)
          · have hv := hv.1 c
            exact j_37 _ hK2 _ _ _ _  hv _ _ _ hE (lv_sub hl [0, 1, 2, 3] rfl)
          · have hv := hv.2 c
            refine lv_iload_n hx hb dX1_firstMover_35 rfl (lv_at hl 3 rfl) ?_
            exact G_iret hC hr hk hE hv dX1_firstMover_36
  refine lv_iconst (v := 0) hx hb dX1_firstMover_0 (by decide) ?_
  refine lv_istore_n (lv' := [(3, .int 0), (0, .ref (a (1 + 10 * w))), (1, .int x1), (2, .int x2)]) hx hb dX1_firstMover_1 rfl hl (by decide) rfl (fun ls hl => ?_)
  exact j_2  _ _ _ _  hv _ _ _ hE (lv_sub hl [1, 2, 3, 0] rfl)
def J_X1_turnBack_42 (w : Nat) (x1 : Int32) (x2 : Int32) (post : St → Prop) (K2 : (Int32 × Int32 × Int32 × St) → Prop) (v1 : Int32) (v2 : Int32) (v3 : Int32) (g : St) : Prop := K2 (v1, v2, (v3 + 1), g)
def J_X1_turnBack_2 (w : Nat) (x1 : Int32) (x2 : Int32) (post : St → Prop) (K2 : (Int32 × Int32 × Int32 × St) → Prop) (v1 : Int32) (v2 : Int32) (v3 : Int32) (g : St) : Prop := (((g.2 (3 + w)) ≤ v3 → post g) ∧ (¬ (g.2 (3 + w)) ≤ v3 → vp_in v3 24 ∧ (((¬ (g.1 (9 + 10 * w) (Int32.toNatClampNeg v3)) = v1 → J_X1_turnBack_42 w x1 x2 post K2 v1 v2 v3 g) ∧ ((g.1 (9 + 10 * w) (Int32.toNatClampNeg v3)) = v1 → ((v3 = v2 → J_X1_turnBack_42 w x1 x2 post K2 v1 v2 v3 g) ∧ (¬ v3 = v2 → V_X5_place w v3 g (fun r2 g1 => vp_in v3 24 ∧ (J_X1_turnBack_42 w x1 x2 post K2 v1 v2 v3 (sA g1 (9 + 10 * w) (upd (g1.1 (9 + 10 * w)) (Int32.toNatClampNeg v3) r2)))))))))))
def V_X1_turnBack (w : Nat) (x1 : Int32) (x2 : Int32) (g : St) (post : St → Prop) : Prop := lpP (fun K2 (z : Int32 × Int32 × Int32 × St) => J_X1_turnBack_2 w x1 x2 post K2 z.1 z.2.1 z.2.2.1 z.2.2.2) (x1, x2, 0, g)
abbrev rm_X1_turnBack : Room := { frames := 1, cells := 0, slots := 0, locals := 21 }
set_option maxHeartbeats 4000000 in
set_option maxRecDepth 100000 in
theorem c_X1_turnBack (l : Launch) (D : va_G) (cs az a : Nat → Nat) {w : Nat} (hw : w < 2) (x1 : Int32) (x2 : Int32) (g : St) (post : St → Prop) (hv : V_X1_turnBack w x1 x2 g post) : uMv l yX1_turnBack wsX1_turnBack rm_X1_turnBack D cs az (gW cs a) [.ref (a (1 + 10 * w)), .int x1, .int x2] g post := by
  refine u_ofV (cc := cX1_turnBack) (maxL := 4) (by decide) rfl (Nat.le_of_ble_eq_true rfl) ?_
  intro p e s m args below meth c F ls hC hr hk hl hE
  have hx := hC.1.1; have hb := hC.1.2.1; have hml := hC.1.2.2.1; have hts := hC.1.2.2.2.2
  have hown : s.vm.findClass RX1 = some m.cls := hC.1.2.2.2.1
  have hl : lv_has ls 4 [(0, .ref (a (1 + 10 * w))), (1, .int x1), (2, .int x2)] := hl
  unfold V_X1_turnBack at hv
  have j_42 : ∀ (K2 : (Int32 × Int32 × Int32 × St) → Prop), (∀ (v1 : Int32) (v2 : Int32) (v3 : Int32) (g : St), K2 (v1, v2, v3, g) → ∀ (H : Heap) (locs : List Loc) (ls : Array Slot), uE D 52 gA (gO cs a) cs a F s g H locs → lv_has ls 4 [(0, .ref (a (1 + 10 * w))), (1, .int v1), (2, .int v2), (3, .int v3)] → W p l e rm_X1_turnBack s m args below meth c H locs 0 0 (MQ below (va_Qv post (uB D (uW 52 gA (gO cs a) cs a)) F) args s 0 0 F) (F0 m 2 ls [])) → ∀ (v1 : Int32) (v2 : Int32) (v3 : Int32) (g : St), J_X1_turnBack_42 w x1 x2 post K2 v1 v2 v3 g → ∀ (H : Heap) (locs : List Loc) (ls : Array Slot), uE D 52 gA (gO cs a) cs a F s g H locs → lv_has ls 4 [(0, .ref (a (1 + 10 * w))), (1, .int v1), (2, .int v2), (3, .int v3)] → W p l e rm_X1_turnBack s m args below meth c H locs 0 0 (MQ below (va_Qv post (uB D (uW 52 gA (gO cs a) cs a)) F) args s 0 0 F) (F0 m 42 ls []) := by
    intro K2 hK2 v1 v2 v3 g  hv
    intro H locs ls hE hl
    unfold J_X1_turnBack_42 at hv
    refine lv_iinc (v := (v3 + 1)) (lv' := [(3, .int (v3 + 1)), (0, .ref (a (1 + 10 * w))), (1, .int v1), (2, .int v2)]) hx hb dX1_turnBack_42 hl (k := 3) rfl rfl (by decide) rfl (fun ls hl => ?_)
    refine lv_goto (tgt := 2) hx hb dX1_turnBack_45 (by decide) ?_
    exact hK2 _ _ _ _  hv _ _ _ hE (lv_sub hl [1, 2, 3, 0] rfl)
  have j_2 : ∀ (v1 : Int32) (v2 : Int32) (v3 : Int32) (g : St), lpP (fun K2 (z : Int32 × Int32 × Int32 × St) => J_X1_turnBack_2 w x1 x2 post K2 z.1 z.2.1 z.2.2.1 z.2.2.2) (v1, v2, v3, g) → ∀ (H : Heap) (locs : List Loc) (ls : Array Slot), uE D 52 gA (gO cs a) cs a F s g H locs → lv_has ls 4 [(0, .ref (a (1 + 10 * w))), (1, .int v1), (2, .int v2), (3, .int v3)] → W p l e rm_X1_turnBack s m args below meth c H locs 0 0 (MQ below (va_Qv post (uB D (uW 52 gA (gO cs a) cs a)) F) args s 0 0 F) (F0 m 2 ls []) := by
    intro  v1 v2 v3 g  hv
    obtain ⟨nn, hv⟩ := hv
    induction nn generalizing v1 v2 v3 g with
    | zero => exact False.elim hv
    | succ nn hK2 =>
      intro H locs ls hE hl
      have hv : J_X1_turnBack_2 w x1 x2 post (itP _ nn) v1 v2 v3 g := hv
      unfold J_X1_turnBack_2 at hv
      refine lv_iload_n hx hb dX1_turnBack_2 rfl (lv_at hl 3 rfl) ?_
      refine lv_aload_n hx hb dX1_turnBack_3 rfl (lv_at hl 0 rfl) ?_
      refine G_get (v := .ref (a (4 + 10 * w))) hC hE (fun _ h => List.mem_cons_of_mem _ (List.mem_append_left _ (List.mem_append_left _ (List.mem_append_right _ h)))) (f_field hw) rfl 1 (by decide) (hts (.fieldLink RX1 21 "SeedBattle$Field" "units" "LSeedBattle$Units;") (List.mem_of_getElem? (i := 1) rfl)) rfl dX1_turnBack_4 ?_
      refine G_getN (v := .int (g.2 (3 + w))) hC hE (fun _ h => List.mem_cons_of_mem _ (List.mem_append_left _ (List.mem_append_right _ h))) (f_units hw) rfl 4 (by decide) (List.mem_of_getElem? (i := 6) rfl) rfl dX1_turnBack_7 ?_
      refine lv_icmp_ge (tgt := 48) hx hb dX1_turnBack_10 (by decide) (fun c => ?_) (fun c => ?_)
      · have hv := hv.1 c
        exact G_vret hC hr hk hE hv dX1_turnBack_48
      · have hv := hv.2 c
        refine lv_aload_n hx hb dX1_turnBack_13 rfl (lv_at hl 0 rfl) ?_
        refine G_get (v := .ref (a (9 + 10 * w))) hC hE (fun _ h => List.mem_cons_of_mem _ (List.mem_append_left _ (List.mem_append_left _ (List.mem_append_right _ h)))) (f_field hw) rfl 2 (by decide) (hts (.fieldLink RX1 25 "SeedBattle$Field" "wants" "[I") (List.mem_of_getElem? (i := 2) rfl)) rfl dX1_turnBack_14 ?_
        refine lv_iload_n hx hb dX1_turnBack_17 rfl (lv_at hl 3 rfl) ?_
        refine G_iald hC hE (f_wants hw) hv.1 dX1_turnBack_18 ?_
        have hv := hv.2
        refine lv_iload_n hx hb dX1_turnBack_19 rfl (lv_at hl 1 rfl) ?_
        refine lv_icmp_ne (tgt := 42) hx hb dX1_turnBack_20 (by decide) (fun c => ?_) (fun c => ?_)
        · have hv := hv.1 c
          exact j_42 _ hK2 _ _ _ _  hv _ _ _ hE (lv_sub hl [0, 1, 2, 3] rfl)
        · have hv := hv.2 c
          refine lv_iload_n hx hb dX1_turnBack_23 rfl (lv_at hl 3 rfl) ?_
          refine lv_iload_n hx hb dX1_turnBack_24 rfl (lv_at hl 2 rfl) ?_
          refine lv_icmp_eq (tgt := 42) hx hb dX1_turnBack_25 (by decide) (fun c => ?_) (fun c => ?_)
          · have hv := hv.1 c
            exact j_42 _ hK2 _ _ _ _  hv _ _ _ hE (lv_sub hl [0, 1, 2, 3] rfl)
          · have hv := hv.2 c
            refine lv_aload_n hx hb dX1_turnBack_28 rfl (lv_at hl 0 rfl) ?_
            refine G_get (v := .ref (a (9 + 10 * w))) hC hE (fun _ h => List.mem_cons_of_mem _ (List.mem_append_left _ (List.mem_append_left _ (List.mem_append_right _ h)))) (f_field hw) rfl 2 (by decide) (hts (.fieldLink RX1 25 "SeedBattle$Field" "wants" "[I") (List.mem_of_getElem? (i := 2) rfl)) rfl dX1_turnBack_29 ?_
            refine lv_iload_n hx hb dX1_turnBack_32 rfl (lv_at hl 3 rfl) ?_
            refine lv_aload_n hx hb dX1_turnBack_33 rfl (lv_at hl 0 rfl) ?_
            refine G_get (v := .ref (a (4 + 10 * w))) hC hE (fun _ h => List.mem_cons_of_mem _ (List.mem_append_left _ (List.mem_append_left _ (List.mem_append_right _ h)))) (f_field hw) rfl 1 (by decide) (hts (.fieldLink RX1 21 "SeedBattle$Field" "units" "LSeedBattle$Units;") (List.mem_of_getElem? (i := 1) rfl)) rfl dX1_turnBack_34 ?_
            refine lv_iload_n hx hb dX1_turnBack_37 rfl (lv_at hl 3 rfl) ?_
            refine G_callVi hC (c_X5_place l D cs az a (w := w) hw v3 g _ hv) (cwV 1 hts gX1_turnBack_X5_place rfl rfl rfl (by decide +kernel) ⟨Nat.le_of_ble_eq_true rfl, Nat.le_of_ble_eq_true rfl⟩) (f_units hw) rfl rfl hl rfl (Nat.le_of_ble_eq_true rfl) dX1_turnBack_38 hE (fun r2 g1 H locs hv hE => ?_)
            refine G_iast hC hE (f_wants hw) hv.1 dX1_turnBack_41 (fun H locs hE => ?_)
            have hv := hv.2
            exact j_42 _ hK2 _ _ _ _  hv _ _ _ hE (lv_sub hl [0, 1, 2, 3] rfl)
  refine lv_iconst (v := 0) hx hb dX1_turnBack_0 (by decide) ?_
  refine lv_istore_n (lv' := [(3, .int 0), (0, .ref (a (1 + 10 * w))), (1, .int x1), (2, .int x2)]) hx hb dX1_turnBack_1 rfl hl (by decide) rfl (fun ls hl => ?_)
  exact j_2  _ _ _ _  hv _ _ _ hE (lv_sub hl [1, 2, 3, 0] rfl)
def J_X1_moveAll_2 (w : Nat) (post : St → Prop) (K2 : (Int32 × St) → Prop) (v1 : Int32) (g : St) : Prop := (((g.2 (3 + w)) ≤ v1 → post g) ∧ (¬ (g.2 (3 + w)) ≤ v1 → vp_in v1 24 ∧ (V_X5_move w v1 (g.1 (9 + 10 * w) (Int32.toNatClampNeg v1)) g (fun g1 => K2 ((v1 + 1), g1)))))
def V_X1_moveAll (w : Nat) (g : St) (post : St → Prop) : Prop := lpP (fun K2 (z : Int32 × St) => J_X1_moveAll_2 w post K2 z.1 z.2) (0, g)
abbrev rm_X1_moveAll : Room := { frames := 1, cells := 0, slots := 0, locals := 22 }
set_option maxHeartbeats 4000000 in
set_option maxRecDepth 100000 in
theorem c_X1_moveAll (l : Launch) (D : va_G) (cs az a : Nat → Nat) {w : Nat} (hw : w < 2)  (g : St) (post : St → Prop) (hv : V_X1_moveAll w g post) : uMv l yX1_moveAll wsX1_moveAll rm_X1_moveAll D cs az (gW cs a) [.ref (a (1 + 10 * w))] g post := by
  refine u_ofV (cc := cX1_moveAll) (maxL := 2) (by decide) rfl (Nat.le_of_ble_eq_true rfl) ?_
  intro p e s m args below meth c F ls hC hr hk hl hE
  have hx := hC.1.1; have hb := hC.1.2.1; have hml := hC.1.2.2.1; have hts := hC.1.2.2.2.2
  have hown : s.vm.findClass RX1 = some m.cls := hC.1.2.2.2.1
  have hl : lv_has ls 2 [(0, .ref (a (1 + 10 * w)))] := hl
  unfold V_X1_moveAll at hv
  have j_2 : ∀ (v1 : Int32) (g : St), lpP (fun K2 (z : Int32 × St) => J_X1_moveAll_2 w post K2 z.1 z.2) (v1, g) → ∀ (H : Heap) (locs : List Loc) (ls : Array Slot), uE D 52 gA (gO cs a) cs a F s g H locs → lv_has ls 2 [(0, .ref (a (1 + 10 * w))), (1, .int v1)] → W p l e rm_X1_moveAll s m args below meth c H locs 0 0 (MQ below (va_Qv post (uB D (uW 52 gA (gO cs a) cs a)) F) args s 0 0 F) (F0 m 2 ls []) := by
    intro  v1 g  hv
    obtain ⟨nn, hv⟩ := hv
    induction nn generalizing v1 g with
    | zero => exact False.elim hv
    | succ nn hK2 =>
      intro H locs ls hE hl
      have hv : J_X1_moveAll_2 w post (itP _ nn) v1 g := hv
      unfold J_X1_moveAll_2 at hv
      refine lv_iload_n hx hb dX1_moveAll_2 rfl (lv_at hl 1 rfl) ?_
      refine lv_aload_n hx hb dX1_moveAll_3 rfl (lv_at hl 0 rfl) ?_
      refine G_get (v := .ref (a (4 + 10 * w))) hC hE (fun _ h => List.mem_cons_of_mem _ (List.mem_append_left _ (List.mem_append_left _ (List.mem_append_right _ h)))) (f_field hw) rfl 1 (by decide) (hts (.fieldLink RX1 21 "SeedBattle$Field" "units" "LSeedBattle$Units;") (List.mem_of_getElem? (i := 1) rfl)) rfl dX1_moveAll_4 ?_
      refine G_getN (v := .int (g.2 (3 + w))) hC hE (fun _ h => List.mem_cons_of_mem _ (List.mem_append_left _ (List.mem_append_right _ h))) (f_units hw) rfl 4 (by decide) (List.mem_of_getElem? (i := 6) rfl) rfl dX1_moveAll_7 ?_
      refine lv_icmp_ge (tgt := 33) hx hb dX1_moveAll_10 (by decide) (fun c => ?_) (fun c => ?_)
      · have hv := hv.1 c
        exact G_vret hC hr hk hE hv dX1_moveAll_33
      · have hv := hv.2 c
        refine lv_aload_n hx hb dX1_moveAll_13 rfl (lv_at hl 0 rfl) ?_
        refine G_get (v := .ref (a (4 + 10 * w))) hC hE (fun _ h => List.mem_cons_of_mem _ (List.mem_append_left _ (List.mem_append_left _ (List.mem_append_right _ h)))) (f_field hw) rfl 1 (by decide) (hts (.fieldLink RX1 21 "SeedBattle$Field" "units" "LSeedBattle$Units;") (List.mem_of_getElem? (i := 1) rfl)) rfl dX1_moveAll_14 ?_
        refine lv_iload_n hx hb dX1_moveAll_17 rfl (lv_at hl 1 rfl) ?_
        refine lv_aload_n hx hb dX1_moveAll_18 rfl (lv_at hl 0 rfl) ?_
        refine G_get (v := .ref (a (9 + 10 * w))) hC hE (fun _ h => List.mem_cons_of_mem _ (List.mem_append_left _ (List.mem_append_left _ (List.mem_append_right _ h)))) (f_field hw) rfl 2 (by decide) (hts (.fieldLink RX1 25 "SeedBattle$Field" "wants" "[I") (List.mem_of_getElem? (i := 2) rfl)) rfl dX1_moveAll_19 ?_
        refine lv_iload_n hx hb dX1_moveAll_22 rfl (lv_at hl 1 rfl) ?_
        refine G_iald hC hE (f_wants hw) hv.1 dX1_moveAll_23 ?_
        have hv := hv.2
        refine G_callVv hC (c_X5_move l D cs az a (w := w) hw v1 (g.1 (9 + 10 * w) (Int32.toNatClampNeg v1)) g _ hv) (cwV 2 hts gX1_moveAll_X5_move rfl rfl rfl (by decide +kernel) ⟨Nat.le_of_ble_eq_true rfl, Nat.le_of_ble_eq_true rfl⟩) (f_units hw) rfl rfl hl rfl (Nat.le_of_ble_eq_true rfl) dX1_moveAll_24 hE (fun g1 H locs hv hE => ?_)
        refine lv_iinc (v := (v1 + 1)) (lv' := [(1, .int (v1 + 1)), (0, .ref (a (1 + 10 * w)))]) hx hb dX1_moveAll_27 hl (k := 1) rfl rfl (by decide) rfl (fun ls hl => ?_)
        refine lv_goto (tgt := 2) hx hb dX1_moveAll_30 (by decide) ?_
        exact hK2 _ _  hv _ _ _ hE (lv_sub hl [1, 0] rfl)
  refine lv_iconst (v := 0) hx hb dX1_moveAll_0 (by decide) ?_
  refine lv_istore_n (lv' := [(1, .int 0), (0, .ref (a (1 + 10 * w)))]) hx hb dX1_moveAll_1 rfl hl (by decide) rfl (fun ls hl => ?_)
  exact j_2  _ _  hv _ _ _ hE (lv_sub hl [1, 0] rfl)
def J_X1_unitSpots_42 (w : Nat) (x1 : Int32) (x2 : Int32) (post : Int32 → St → Prop)  (v2 : Int32) (v3 : Int32) (t0 : Int32) (t1 : Int32) (g : St) : Prop := V_X3_distance v3 v2 (fun r7 => (((t1 + t0) < r7 → post 0 g) ∧ (¬ (t1 + t0) < r7 → V_X3_isClear w v3 v2 g (fun r9 g8 => ((r9 = 0 → post 0 g8) ∧ (¬ r9 = 0 → post 1 g8))))))
def V_X1_unitSpots (w : Nat) (x1 : Int32) (x2 : Int32) (g : St) (post : Int32 → St → Prop) : Prop := V_X5_place w x1 g (fun r2 g1 => ((¬ r2 = (-1) → V_X5_sight w x1 g1 (fun r4 g3 => V_X3_at w r2 g3 (fun r6 g5 => ((¬ r6 = 104 → J_X1_unitSpots_42 w x1 x2 post x2 r2 0 r4 g5) ∧ (r6 = 104 → J_X1_unitSpots_42 w x1 x2 post x2 r2 1 r4 g5))))) ∧ (r2 = (-1) → post 0 g1)))
abbrev rm_X1_unitSpots : Room := { frames := 3, cells := 0, slots := 0, locals := 74 }
set_option maxHeartbeats 4000000 in
set_option maxRecDepth 100000 in
theorem c_X1_unitSpots (l : Launch) (D : va_G) (cs az a : Nat → Nat) {w : Nat} (hw : w < 2) (x1 : Int32) (x2 : Int32) (g : St) (post : Int32 → St → Prop) (hv : V_X1_unitSpots w x1 x2 g post) : uMi l yX1_unitSpots wsX1_unitSpots rm_X1_unitSpots D cs az (gW cs a) [.ref (a (1 + 10 * w)), .int x1, .int x2] g post := by
  refine u_ofI (cc := cX1_unitSpots) (maxL := 5) (by decide) rfl (Nat.le_of_ble_eq_true rfl) ?_
  intro p e s m args below meth c F ls hC hr hk hl hE
  have hx := hC.1.1; have hb := hC.1.2.1; have hml := hC.1.2.2.1; have hts := hC.1.2.2.2.2
  have hown : s.vm.findClass RX1 = some m.cls := hC.1.2.2.2.1
  have hl : lv_has ls 5 [(0, .ref (a (1 + 10 * w))), (1, .int x1), (2, .int x2)] := hl
  unfold V_X1_unitSpots at hv
  have j_42 : ∀ (v2 : Int32) (v3 : Int32) (t0 : Int32) (t1 : Int32) (g : St), J_X1_unitSpots_42 w x1 x2 post v2 v3 t0 t1 g → ∀ (H : Heap) (locs : List Loc) (ls : Array Slot), uE D 52 gA (gO cs a) cs a F s g H locs → lv_has ls 5 [(0, .ref (a (1 + 10 * w))), (2, .int v2), (3, .int v3)] → W p l e rm_X1_unitSpots s m args below meth c H locs 0 0 (MQ below (va_Qi post (uB D (uW 52 gA (gO cs a) cs a)) F) args s 0 0 F) (F0 m 42 ls [.int t0, .int t1]) := by
    intro  v2 v3 t0 t1 g  hv
    intro H locs ls hE hl
    unfold J_X1_unitSpots_42 at hv
    refine lv_iadd hx hb dX1_unitSpots_42 ?_
    refine lv_istore (lv' := [(4, .int (t1 + t0)), (0, .ref (a (1 + 10 * w))), (2, .int v2), (3, .int v3)]) hx hb dX1_unitSpots_43 hl (by decide) rfl (fun ls hl => ?_)
    refine lv_iload_n hx hb dX1_unitSpots_45 rfl (lv_at hl 3 rfl) ?_
    refine lv_iload_n hx hb dX1_unitSpots_46 rfl (lv_at hl 2 rfl) ?_
    refine G_callSs hC.1 hC.2.2.2.2.1 (c_X3_distance l v3 v2 _ hv) (va_cwS 2 hts gX1_unitSpots_X3_distance rfl rfl rfl (by decide +kernel) ⟨Nat.le_of_ble_eq_true rfl, Nat.le_of_ble_eq_true rfl⟩) rfl hl rfl (Nat.le_of_ble_eq_true rfl) dX1_unitSpots_47 (Nat.zero_le _) (Nat.zero_le _) (fun r7 hv => ?_)
    refine lv_iload hx hb dX1_unitSpots_50 (lv_at hl 0 rfl) ?_
    refine lv_icmp_gt (tgt := 71) hx hb dX1_unitSpots_52 (by decide) (fun c => ?_) (fun c => ?_)
    · have hv := hv.1 c
      refine lv_iconst (v := 0) hx hb dX1_unitSpots_71 (by decide) ?_
      exact G_zret hC hr hk hE rfl hv dX1_unitSpots_72
    · have hv := hv.2 c
      refine lv_aload_n hx hb dX1_unitSpots_55 rfl (lv_at hl 1 rfl) ?_
      refine G_get (v := .ref (a (2 + 10 * w))) hC hE (fun _ h => List.mem_cons_of_mem _ (List.mem_append_left _ (List.mem_append_left _ (List.mem_append_left _ (List.mem_append_left _ (List.mem_append_right _ h)))))) (f_field hw) rfl 0 (by decide) (hts (.fieldLink RX1 12 "SeedBattle$Field" "land" "LSeedBattle$Land;") (List.mem_of_getElem? (i := 2) rfl)) rfl dX1_unitSpots_56 ?_
      refine lv_iload_n hx hb dX1_unitSpots_59 rfl (lv_at hl 3 rfl) ?_
      refine lv_iload_n hx hb dX1_unitSpots_60 rfl (lv_at hl 2 rfl) ?_
      refine G_callVi hC (c_X3_isClear l D cs az a (w := w) hw v3 v2 g _ hv) (cwV 2 hts gX1_unitSpots_X3_isClear rfl rfl rfl (by decide +kernel) ⟨Nat.le_of_ble_eq_true rfl, Nat.le_of_ble_eq_true rfl⟩) (f_land hw) rfl rfl hl rfl (Nat.le_of_ble_eq_true rfl) dX1_unitSpots_61 hE (fun r9 g8 H locs hv hE => ?_)
      refine lv_if_eq (tgt := 71) hx hb dX1_unitSpots_64 (by decide) (fun c => ?_) (fun c => ?_)
      · have hv := hv.1 c
        refine lv_iconst (v := 0) hx hb dX1_unitSpots_71 (by decide) ?_
        exact G_zret hC hr hk hE rfl hv dX1_unitSpots_72
      · have hv := hv.2 c
        refine lv_iconst (v := 1) hx hb dX1_unitSpots_67 (by decide) ?_
        refine lv_goto (tgt := 72) hx hb dX1_unitSpots_68 (by decide) ?_
        exact G_zret hC hr hk hE rfl hv dX1_unitSpots_72
  refine lv_aload_n hx hb dX1_unitSpots_0 rfl (lv_at hl 0 rfl) ?_
  refine G_get (v := .ref (a (4 + 10 * w))) hC hE (fun _ h => List.mem_cons_of_mem _ (List.mem_append_left _ (List.mem_append_left _ (List.mem_append_left _ (List.mem_append_left _ (List.mem_append_right _ h)))))) (f_field hw) rfl 1 (by decide) (hts (.fieldLink RX1 21 "SeedBattle$Field" "units" "LSeedBattle$Units;") (List.mem_of_getElem? (i := 1) rfl)) rfl dX1_unitSpots_1 ?_
  refine lv_iload_n hx hb dX1_unitSpots_4 rfl (lv_at hl 1 rfl) ?_
  refine G_callVi hC (c_X5_place l D cs az a (w := w) hw x1 g _ hv) (cwV 1 hts gX1_unitSpots_X5_place rfl rfl rfl (by decide +kernel) ⟨Nat.le_of_ble_eq_true rfl, Nat.le_of_ble_eq_true rfl⟩) (f_units hw) rfl rfl hl rfl (Nat.le_of_ble_eq_true rfl) dX1_unitSpots_5 hE (fun r2 g1 H locs hv hE => ?_)
  refine lv_istore_n (lv' := [(3, .int r2), (0, .ref (a (1 + 10 * w))), (1, .int x1), (2, .int x2)]) hx hb dX1_unitSpots_8 rfl hl (by decide) rfl (fun ls hl => ?_)
  refine lv_iload_n hx hb dX1_unitSpots_9 rfl (lv_at hl 0 rfl) ?_
  refine lv_iconst (v := (-1)) hx hb dX1_unitSpots_10 (by decide) ?_
  refine lv_icmp_ne (tgt := 16) hx hb dX1_unitSpots_11 (by decide) (fun c => ?_) (fun c => ?_)
  · have hv := hv.1 c
    refine lv_aload_n hx hb dX1_unitSpots_16 rfl (lv_at hl 1 rfl) ?_
    refine G_get (v := .ref (a (4 + 10 * w))) hC hE (fun _ h => List.mem_cons_of_mem _ (List.mem_append_left _ (List.mem_append_left _ (List.mem_append_left _ (List.mem_append_left _ (List.mem_append_right _ h)))))) (f_field hw) rfl 1 (by decide) (hts (.fieldLink RX1 21 "SeedBattle$Field" "units" "LSeedBattle$Units;") (List.mem_of_getElem? (i := 1) rfl)) rfl dX1_unitSpots_17 ?_
    refine lv_iload_n hx hb dX1_unitSpots_20 rfl (lv_at hl 2 rfl) ?_
    refine G_callVi hC (c_X5_sight l D cs az a (w := w) hw x1 g1 _ hv) (cwV 1 hts gX1_unitSpots_X5_sight rfl rfl rfl (by decide +kernel) ⟨Nat.le_of_ble_eq_true rfl, Nat.le_of_ble_eq_true rfl⟩) (f_units hw) rfl rfl hl rfl (Nat.le_of_ble_eq_true rfl) dX1_unitSpots_21 hE (fun r4 g3 H locs hv hE => ?_)
    refine lv_aload_n hx hb dX1_unitSpots_24 rfl (lv_at hl 1 rfl) ?_
    refine G_get (v := .ref (a (2 + 10 * w))) hC hE (fun _ h => List.mem_cons_of_mem _ (List.mem_append_left _ (List.mem_append_left _ (List.mem_append_left _ (List.mem_append_left _ (List.mem_append_right _ h)))))) (f_field hw) rfl 0 (by decide) (hts (.fieldLink RX1 12 "SeedBattle$Field" "land" "LSeedBattle$Land;") (List.mem_of_getElem? (i := 2) rfl)) rfl dX1_unitSpots_25 ?_
    refine lv_iload_n hx hb dX1_unitSpots_28 rfl (lv_at hl 0 rfl) ?_
    refine G_callVi hC (c_X3_at l D cs az a (w := w) hw r2 g3 _ hv) (cwV 1 hts gX1_unitSpots_X3_at rfl rfl rfl (by decide +kernel) ⟨Nat.le_of_ble_eq_true rfl, Nat.le_of_ble_eq_true rfl⟩) (f_land hw) rfl rfl hl rfl (Nat.le_of_ble_eq_true rfl) dX1_unitSpots_29 hE (fun r6 g5 H locs hv hE => ?_)
    refine lv_bipush (v := 104) hx hb dX1_unitSpots_32 (by decide) ?_
    refine lv_icmp_ne (tgt := 41) hx hb dX1_unitSpots_34 (by decide) (fun c => ?_) (fun c => ?_)
    · have hv := hv.1 c
      refine lv_iconst (v := 0) hx hb dX1_unitSpots_41 (by decide) ?_
      exact j_42  _ _ _ _ _  hv _ _ _ hE (lv_sub hl [1, 3, 0] rfl)
    · have hv := hv.2 c
      refine lv_iconst (v := 1) hx hb dX1_unitSpots_37 (by decide) ?_
      refine lv_goto (tgt := 42) hx hb dX1_unitSpots_38 (by decide) ?_
      exact j_42  _ _ _ _ _  hv _ _ _ hE (lv_sub hl [1, 3, 0] rfl)
  · have hv := hv.2 c
    refine lv_iconst (v := 0) hx hb dX1_unitSpots_14 (by decide) ?_
    exact G_zret hC hr hk hE rfl hv dX1_unitSpots_15
def J_X1_playerSpots_36 (w : Nat) (x1 : Int32) (x2 : Int32) (post : Int32 → St → Prop) (K2 : (Int32 × Int32 × Int32 × St) → Prop) (v1 : Int32) (v2 : Int32) (v3 : Int32) (g : St) : Prop := K2 (v1, v2, (v3 + 1), g)
def J_X1_playerSpots_2 (w : Nat) (x1 : Int32) (x2 : Int32) (post : Int32 → St → Prop) (K2 : (Int32 × Int32 × Int32 × St) → Prop) (v1 : Int32) (v2 : Int32) (v3 : Int32) (g : St) : Prop := (((g.2 (3 + w)) ≤ v3 → post 0 g) ∧ (¬ (g.2 (3 + w)) ≤ v3 → V_X5_owner w v3 g (fun r2 g1 => ((¬ r2 = v1 → J_X1_playerSpots_36 w x1 x2 post K2 v1 v2 v3 g1) ∧ (r2 = v1 → V_X1_unitSpots w v3 v2 g1 (fun r4 g3 => ((r4 = 0 → J_X1_playerSpots_36 w x1 x2 post K2 v1 v2 v3 g3) ∧ (¬ r4 = 0 → post 1 g3))))))))
def V_X1_playerSpots (w : Nat) (x1 : Int32) (x2 : Int32) (g : St) (post : Int32 → St → Prop) : Prop := lpP (fun K2 (z : Int32 × Int32 × Int32 × St) => J_X1_playerSpots_2 w x1 x2 post K2 z.1 z.2.1 z.2.2.1 z.2.2.2) (x1, x2, 0, g)
abbrev rm_X1_playerSpots : Room := { frames := 4, cells := 0, slots := 0, locals := 98 }
set_option maxHeartbeats 4000000 in
set_option maxRecDepth 100000 in
theorem c_X1_playerSpots (l : Launch) (D : va_G) (cs az a : Nat → Nat) {w : Nat} (hw : w < 2) (x1 : Int32) (x2 : Int32) (g : St) (post : Int32 → St → Prop) (hv : V_X1_playerSpots w x1 x2 g post) : uMi l yX1_playerSpots wsX1_playerSpots rm_X1_playerSpots D cs az (gW cs a) [.ref (a (1 + 10 * w)), .int x1, .int x2] g post := by
  refine u_ofI (cc := cX1_playerSpots) (maxL := 4) (by decide) rfl (Nat.le_of_ble_eq_true rfl) ?_
  intro p e s m args below meth c F ls hC hr hk hl hE
  have hx := hC.1.1; have hb := hC.1.2.1; have hml := hC.1.2.2.1; have hts := hC.1.2.2.2.2
  have hown : s.vm.findClass RX1 = some m.cls := hC.1.2.2.2.1
  have hl : lv_has ls 4 [(0, .ref (a (1 + 10 * w))), (1, .int x1), (2, .int x2)] := hl
  unfold V_X1_playerSpots at hv
  have j_36 : ∀ (K2 : (Int32 × Int32 × Int32 × St) → Prop), (∀ (v1 : Int32) (v2 : Int32) (v3 : Int32) (g : St), K2 (v1, v2, v3, g) → ∀ (H : Heap) (locs : List Loc) (ls : Array Slot), uE D 52 gA (gO cs a) cs a F s g H locs → lv_has ls 4 [(0, .ref (a (1 + 10 * w))), (1, .int v1), (2, .int v2), (3, .int v3)] → W p l e rm_X1_playerSpots s m args below meth c H locs 0 0 (MQ below (va_Qi post (uB D (uW 52 gA (gO cs a) cs a)) F) args s 0 0 F) (F0 m 2 ls [])) → ∀ (v1 : Int32) (v2 : Int32) (v3 : Int32) (g : St), J_X1_playerSpots_36 w x1 x2 post K2 v1 v2 v3 g → ∀ (H : Heap) (locs : List Loc) (ls : Array Slot), uE D 52 gA (gO cs a) cs a F s g H locs → lv_has ls 4 [(0, .ref (a (1 + 10 * w))), (1, .int v1), (2, .int v2), (3, .int v3)] → W p l e rm_X1_playerSpots s m args below meth c H locs 0 0 (MQ below (va_Qi post (uB D (uW 52 gA (gO cs a) cs a)) F) args s 0 0 F) (F0 m 36 ls []) := by
    intro K2 hK2 v1 v2 v3 g  hv
    intro H locs ls hE hl
    unfold J_X1_playerSpots_36 at hv
    refine lv_iinc (v := (v3 + 1)) (lv' := [(3, .int (v3 + 1)), (0, .ref (a (1 + 10 * w))), (1, .int v1), (2, .int v2)]) hx hb dX1_playerSpots_36 hl (k := 3) rfl rfl (by decide) rfl (fun ls hl => ?_)
    refine lv_goto (tgt := 2) hx hb dX1_playerSpots_39 (by decide) ?_
    exact hK2 _ _ _ _  hv _ _ _ hE (lv_sub hl [1, 2, 3, 0] rfl)
  have j_2 : ∀ (v1 : Int32) (v2 : Int32) (v3 : Int32) (g : St), lpP (fun K2 (z : Int32 × Int32 × Int32 × St) => J_X1_playerSpots_2 w x1 x2 post K2 z.1 z.2.1 z.2.2.1 z.2.2.2) (v1, v2, v3, g) → ∀ (H : Heap) (locs : List Loc) (ls : Array Slot), uE D 52 gA (gO cs a) cs a F s g H locs → lv_has ls 4 [(0, .ref (a (1 + 10 * w))), (1, .int v1), (2, .int v2), (3, .int v3)] → W p l e rm_X1_playerSpots s m args below meth c H locs 0 0 (MQ below (va_Qi post (uB D (uW 52 gA (gO cs a) cs a)) F) args s 0 0 F) (F0 m 2 ls []) := by
    intro  v1 v2 v3 g  hv
    obtain ⟨nn, hv⟩ := hv
    induction nn generalizing v1 v2 v3 g with
    | zero => exact False.elim hv
    | succ nn hK2 =>
      intro H locs ls hE hl
      have hv : J_X1_playerSpots_2 w x1 x2 post (itP _ nn) v1 v2 v3 g := hv
      unfold J_X1_playerSpots_2 at hv
      refine lv_iload_n hx hb dX1_playerSpots_2 rfl (lv_at hl 3 rfl) ?_
      refine lv_aload_n hx hb dX1_playerSpots_3 rfl (lv_at hl 0 rfl) ?_
      refine G_get (v := .ref (a (4 + 10 * w))) hC hE (fun _ h => List.mem_cons_of_mem _ (List.mem_append_left _ (List.mem_append_left _ (List.mem_append_left _ (List.mem_append_left _ (List.mem_append_right _ h)))))) (f_field hw) rfl 1 (by decide) (hts (.fieldLink RX1 21 "SeedBattle$Field" "units" "LSeedBattle$Units;") (List.mem_of_getElem? (i := 1) rfl)) rfl dX1_playerSpots_4 ?_
      refine G_getN (v := .int (g.2 (3 + w))) hC hE (fun _ h => List.mem_cons_of_mem _ (List.mem_append_left _ (List.mem_append_left _ (List.mem_append_left _ (List.mem_append_right _ h))))) (f_units hw) rfl 4 (by decide) (List.mem_of_getElem? (i := 6) rfl) rfl dX1_playerSpots_7 ?_
      refine lv_icmp_ge (tgt := 42) hx hb dX1_playerSpots_10 (by decide) (fun c => ?_) (fun c => ?_)
      · have hv := hv.1 c
        refine lv_iconst (v := 0) hx hb dX1_playerSpots_42 (by decide) ?_
        exact G_zret hC hr hk hE rfl hv dX1_playerSpots_43
      · have hv := hv.2 c
        refine lv_aload_n hx hb dX1_playerSpots_13 rfl (lv_at hl 0 rfl) ?_
        refine G_get (v := .ref (a (4 + 10 * w))) hC hE (fun _ h => List.mem_cons_of_mem _ (List.mem_append_left _ (List.mem_append_left _ (List.mem_append_left _ (List.mem_append_left _ (List.mem_append_right _ h)))))) (f_field hw) rfl 1 (by decide) (hts (.fieldLink RX1 21 "SeedBattle$Field" "units" "LSeedBattle$Units;") (List.mem_of_getElem? (i := 1) rfl)) rfl dX1_playerSpots_14 ?_
        refine lv_iload_n hx hb dX1_playerSpots_17 rfl (lv_at hl 3 rfl) ?_
        refine G_callVi hC (c_X5_owner l D cs az a (w := w) hw v3 g _ hv) (cwV 1 hts gX1_playerSpots_X5_owner rfl rfl rfl (by decide +kernel) ⟨Nat.le_of_ble_eq_true rfl, Nat.le_of_ble_eq_true rfl⟩) (f_units hw) rfl rfl hl rfl (Nat.le_of_ble_eq_true rfl) dX1_playerSpots_18 hE (fun r2 g1 H locs hv hE => ?_)
        refine lv_iload_n hx hb dX1_playerSpots_21 rfl (lv_at hl 1 rfl) ?_
        refine lv_icmp_ne (tgt := 36) hx hb dX1_playerSpots_22 (by decide) (fun c => ?_) (fun c => ?_)
        · have hv := hv.1 c
          exact j_36 _ hK2 _ _ _ _  hv _ _ _ hE (lv_sub hl [0, 1, 2, 3] rfl)
        · have hv := hv.2 c
          refine lv_aload_n hx hb dX1_playerSpots_25 rfl (lv_at hl 0 rfl) ?_
          refine lv_iload_n hx hb dX1_playerSpots_26 rfl (lv_at hl 3 rfl) ?_
          refine lv_iload_n hx hb dX1_playerSpots_27 rfl (lv_at hl 2 rfl) ?_
          refine G_callVi hC (c_X1_unitSpots l D cs az a (w := w) hw v3 v2 g1 _ hv) (cwV 2 hts gX1_playerSpots_X1_unitSpots rfl rfl rfl (by decide +kernel) ⟨Nat.le_of_ble_eq_true rfl, Nat.le_of_ble_eq_true rfl⟩) (f_field hw) rfl rfl hl rfl (Nat.le_of_ble_eq_true rfl) dX1_playerSpots_28 hE (fun r4 g3 H locs hv hE => ?_)
          refine lv_if_eq (tgt := 36) hx hb dX1_playerSpots_31 (by decide) (fun c => ?_) (fun c => ?_)
          · have hv := hv.1 c
            exact j_36 _ hK2 _ _ _ _  hv _ _ _ hE (lv_sub hl [0, 1, 2, 3] rfl)
          · have hv := hv.2 c
            refine lv_iconst (v := 1) hx hb dX1_playerSpots_34 (by decide) ?_
            exact G_zret hC hr hk hE rfl hv dX1_playerSpots_35
  refine lv_iconst (v := 0) hx hb dX1_playerSpots_0 (by decide) ?_
  refine lv_istore_n (lv' := [(3, .int 0), (0, .ref (a (1 + 10 * w))), (1, .int x1), (2, .int x2)]) hx hb dX1_playerSpots_1 rfl hl (by decide) rfl (fun ls hl => ?_)
  exact j_2  _ _ _ _  hv _ _ _ hE (lv_sub hl [1, 2, 3, 0] rfl)
def J_X1_strongestFor_123 (w : Nat) (x1 : Int32) (post : Int32 → St → Prop) (K79 : (Int32 × Int32 × Int32 × St) → Prop) (v2 : Int32) (v3 : Int32) (v4 : Int32) (g : St) : Prop := K79 (v2, v3, (v4 + 1), g)
def J_X1_strongestFor_79 (w : Nat) (x1 : Int32) (post : Int32 → St → Prop) (K79 : (Int32 × Int32 × Int32 × St) → Prop) (v2 : Int32) (v3 : Int32) (v4 : Int32) (g : St) : Prop := ((4 ≤ v4 → post v2 g) ∧ (¬ 4 ≤ v4 → vp_in v4 4 ∧ ((((g.1 (10 + 10 * w) (Int32.toNatClampNeg v4)) ≤ v3 → vp_in v4 4 ∧ (((¬ (g.1 (10 + 10 * w) (Int32.toNatClampNeg v4)) = v3 → J_X1_strongestFor_123 w x1 post K79 v2 v3 v4 g) ∧ ((g.1 (10 + 10 * w) (Int32.toNatClampNeg v4)) = v3 → J_X1_strongestFor_123 w x1 post K79 (-1) v3 v4 g)))) ∧ (¬ (g.1 (10 + 10 * w) (Int32.toNatClampNeg v4)) ≤ v3 → vp_in v4 4 ∧ (J_X1_strongestFor_123 w x1 post K79 v4 (g.1 (10 + 10 * w) (Int32.toNatClampNeg v4)) v4 g))))))
def J_X1_strongestFor_66 (w : Nat) (x1 : Int32) (post : Int32 → St → Prop) (K10 : (Int32 × Int32 × St) → Prop) (v1 : Int32) (v2 : Int32) (g : St) : Prop := K10 (v1, (v2 + 1), g)
def J_X1_strongestFor_10 (w : Nat) (x1 : Int32) (post : Int32 → St → Prop) (K10 : (Int32 × Int32 × St) → Prop) (v1 : Int32) (v2 : Int32) (g : St) : Prop := (((g.2 (3 + w)) ≤ v2 → lpP (fun K79 (z : Int32 × Int32 × Int32 × St) => J_X1_strongestFor_79 w x1 post K79 z.1 z.2.1 z.2.2.1 z.2.2.2) ((-1), 0, 0, g)) ∧ (¬ (g.2 (3 + w)) ≤ v2 → V_X5_owner w v2 g (fun r3 g2 => vp_in v2 24 ∧ (((¬ (g2.1 (9 + 10 * w) (Int32.toNatClampNeg v2)) = v1 → J_X1_strongestFor_66 w x1 post K10 v1 v2 g2) ∧ ((g2.1 (9 + 10 * w) (Int32.toNatClampNeg v2)) = v1 → ((r3 < 0 → J_X1_strongestFor_66 w x1 post K10 v1 v2 g2) ∧ (¬ r3 < 0 → ((4 ≤ r3 → J_X1_strongestFor_66 w x1 post K10 v1 v2 g2) ∧ (¬ 4 ≤ r3 → vp_in r3 4 ∧ (V_X5_power w v2 g2 (fun r5 g4 => vp_in r3 4 ∧ (J_X1_strongestFor_66 w x1 post K10 v1 v2 (sA g4 (10 + 10 * w) (upd (g4.1 (10 + 10 * w)) (Int32.toNatClampNeg r3) ((g2.1 (10 + 10 * w) (Int32.toNatClampNeg r3)) + r5))))))))))))))))
def V_X1_strongestFor (w : Nat) (x1 : Int32) (g : St) (post : Int32 → St → Prop) : Prop := V_J7_fill_53178 (10 + 10 * w) 4 0 g (fun g1 => lpP (fun K10 (z : Int32 × Int32 × St) => J_X1_strongestFor_10 w x1 post K10 z.1 z.2.1 z.2.2) (x1, 0, g1))
abbrev rm_X1_strongestFor : Room := { frames := 1, cells := 0, slots := 0, locals := 23 }
set_option maxHeartbeats 4000000 in
set_option maxRecDepth 100000 in
theorem c_X1_strongestFor (l : Launch) (D : va_G) (cs az a : Nat → Nat) {w : Nat} (hw : w < 2) (x1 : Int32) (g : St) (post : Int32 → St → Prop) (hv : V_X1_strongestFor w x1 g post) : uMi l yX1_strongestFor wsX1_strongestFor rm_X1_strongestFor D cs az (gW cs a) [.ref (a (1 + 10 * w)), .int x1] g post := by
  refine u_ofI (cc := cX1_strongestFor) (maxL := 5) (by decide) rfl (Nat.le_of_ble_eq_true rfl) ?_
  intro p e s m args below meth c F ls hC hr hk hl hE
  have hx := hC.1.1; have hb := hC.1.2.1; have hml := hC.1.2.2.1; have hts := hC.1.2.2.2.2
  have hown : s.vm.findClass RX1 = some m.cls := hC.1.2.2.2.1
  have hl : lv_has ls 5 [(0, .ref (a (1 + 10 * w))), (1, .int x1)] := hl
  unfold V_X1_strongestFor at hv
  have j_123 : ∀ (K79 : (Int32 × Int32 × Int32 × St) → Prop), (∀ (v2 : Int32) (v3 : Int32) (v4 : Int32) (g : St), K79 (v2, v3, v4, g) → ∀ (H : Heap) (locs : List Loc) (ls : Array Slot), uE D 52 gA (gO cs a) cs a F s g H locs → lv_has ls 5 [(0, .ref (a (1 + 10 * w))), (2, .int v2), (3, .int v3), (4, .int v4)] → W p l e rm_X1_strongestFor s m args below meth c H locs 0 0 (MQ below (va_Qi post (uB D (uW 52 gA (gO cs a) cs a)) F) args s 0 0 F) (F0 m 79 ls [])) → ∀ (v2 : Int32) (v3 : Int32) (v4 : Int32) (g : St), J_X1_strongestFor_123 w x1 post K79 v2 v3 v4 g → ∀ (H : Heap) (locs : List Loc) (ls : Array Slot), uE D 52 gA (gO cs a) cs a F s g H locs → lv_has ls 5 [(0, .ref (a (1 + 10 * w))), (2, .int v2), (3, .int v3), (4, .int v4)] → W p l e rm_X1_strongestFor s m args below meth c H locs 0 0 (MQ below (va_Qi post (uB D (uW 52 gA (gO cs a) cs a)) F) args s 0 0 F) (F0 m 123 ls []) := by
    intro K79 hK79 v2 v3 v4 g  hv
    intro H locs ls hE hl
    unfold J_X1_strongestFor_123 at hv
    refine lv_iinc (v := (v4 + 1)) (lv' := [(4, .int (v4 + 1)), (0, .ref (a (1 + 10 * w))), (2, .int v2), (3, .int v3)]) hx hb dX1_strongestFor_123 hl (k := 3) rfl rfl (by decide) rfl (fun ls hl => ?_)
    refine lv_goto (tgt := 79) hx hb dX1_strongestFor_126 (by decide) ?_
    exact hK79 _ _ _ _  hv _ _ _ hE (lv_sub hl [1, 2, 3, 0] rfl)
  have j_79 : ∀ (v2 : Int32) (v3 : Int32) (v4 : Int32) (g : St), lpP (fun K79 (z : Int32 × Int32 × Int32 × St) => J_X1_strongestFor_79 w x1 post K79 z.1 z.2.1 z.2.2.1 z.2.2.2) (v2, v3, v4, g) → ∀ (H : Heap) (locs : List Loc) (ls : Array Slot), uE D 52 gA (gO cs a) cs a F s g H locs → lv_has ls 5 [(0, .ref (a (1 + 10 * w))), (2, .int v2), (3, .int v3), (4, .int v4)] → W p l e rm_X1_strongestFor s m args below meth c H locs 0 0 (MQ below (va_Qi post (uB D (uW 52 gA (gO cs a) cs a)) F) args s 0 0 F) (F0 m 79 ls []) := by
    intro  v2 v3 v4 g  hv
    obtain ⟨nn, hv⟩ := hv
    induction nn generalizing v2 v3 v4 g with
    | zero => exact False.elim hv
    | succ nn hK79 =>
      intro H locs ls hE hl
      have hv : J_X1_strongestFor_79 w x1 post (itP _ nn) v2 v3 v4 g := hv
      unfold J_X1_strongestFor_79 at hv
      refine lv_iload hx hb dX1_strongestFor_79 (lv_at hl 3 rfl) ?_
      refine lv_iconst (v := 4) hx hb dX1_strongestFor_81 (by decide) ?_
      refine lv_icmp_ge (tgt := 129) hx hb dX1_strongestFor_82 (by decide) (fun c => ?_) (fun c => ?_)
      · have hv := hv.1 c
        refine lv_iload_n hx hb dX1_strongestFor_129 rfl (lv_at hl 1 rfl) ?_
        exact G_iret hC hr hk hE hv dX1_strongestFor_130
      · have hv := hv.2 c
        refine lv_aload_n hx hb dX1_strongestFor_85 rfl (lv_at hl 0 rfl) ?_
        refine G_get (v := .ref (a (10 + 10 * w))) hC hE (fun _ h => List.mem_cons_of_mem _ (List.mem_append_left _ (List.mem_append_left _ (List.mem_append_right _ h)))) (f_field hw) rfl 3 (by decide) (hts (.fieldLink RX1 29 "SeedBattle$Field" "powers" "[I") (List.mem_of_getElem? (i := 1) rfl)) rfl dX1_strongestFor_86 ?_
        refine lv_iload hx hb dX1_strongestFor_89 (lv_at hl 3 rfl) ?_
        refine G_iald hC hE (f_powers hw) hv.1 dX1_strongestFor_91 ?_
        have hv := hv.2
        refine lv_iload_n hx hb dX1_strongestFor_92 rfl (lv_at hl 2 rfl) ?_
        refine lv_icmp_le (tgt := 110) hx hb dX1_strongestFor_93 (by decide) (fun c => ?_) (fun c => ?_)
        · have hv := hv.1 c
          refine lv_aload_n hx hb dX1_strongestFor_110 rfl (lv_at hl 0 rfl) ?_
          refine G_get (v := .ref (a (10 + 10 * w))) hC hE (fun _ h => List.mem_cons_of_mem _ (List.mem_append_left _ (List.mem_append_left _ (List.mem_append_right _ h)))) (f_field hw) rfl 3 (by decide) (hts (.fieldLink RX1 29 "SeedBattle$Field" "powers" "[I") (List.mem_of_getElem? (i := 1) rfl)) rfl dX1_strongestFor_111 ?_
          refine lv_iload hx hb dX1_strongestFor_114 (lv_at hl 3 rfl) ?_
          refine G_iald hC hE (f_powers hw) hv.1 dX1_strongestFor_116 ?_
          have hv := hv.2
          refine lv_iload_n hx hb dX1_strongestFor_117 rfl (lv_at hl 2 rfl) ?_
          refine lv_icmp_ne (tgt := 123) hx hb dX1_strongestFor_118 (by decide) (fun c => ?_) (fun c => ?_)
          · have hv := hv.1 c
            exact j_123 _ hK79 _ _ _ _  hv _ _ _ hE (lv_sub hl [0, 1, 2, 3] rfl)
          · have hv := hv.2 c
            refine lv_iconst (v := (-1)) hx hb dX1_strongestFor_121 (by decide) ?_
            refine lv_istore_n (lv' := [(2, .int (-1)), (0, .ref (a (1 + 10 * w))), (3, .int v3), (4, .int v4)]) hx hb dX1_strongestFor_122 rfl hl (by decide) rfl (fun ls hl => ?_)
            exact j_123 _ hK79 _ _ _ _  hv _ _ _ hE (lv_sub hl [1, 0, 2, 3] rfl)
        · have hv := hv.2 c
          refine lv_aload_n hx hb dX1_strongestFor_96 rfl (lv_at hl 0 rfl) ?_
          refine G_get (v := .ref (a (10 + 10 * w))) hC hE (fun _ h => List.mem_cons_of_mem _ (List.mem_append_left _ (List.mem_append_left _ (List.mem_append_right _ h)))) (f_field hw) rfl 3 (by decide) (hts (.fieldLink RX1 29 "SeedBattle$Field" "powers" "[I") (List.mem_of_getElem? (i := 1) rfl)) rfl dX1_strongestFor_97 ?_
          refine lv_iload hx hb dX1_strongestFor_100 (lv_at hl 3 rfl) ?_
          refine G_iald hC hE (f_powers hw) hv.1 dX1_strongestFor_102 ?_
          have hv := hv.2
          refine lv_istore_n (lv' := [(3, .int (g.1 (10 + 10 * w) (Int32.toNatClampNeg v4))), (0, .ref (a (1 + 10 * w))), (2, .int v2), (4, .int v4)]) hx hb dX1_strongestFor_103 rfl hl (by decide) rfl (fun ls hl => ?_)
          refine lv_iload hx hb dX1_strongestFor_104 (lv_at hl 3 rfl) ?_
          refine lv_istore_n (lv' := [(2, .int v4), (3, .int (g.1 (10 + 10 * w) (Int32.toNatClampNeg v4))), (0, .ref (a (1 + 10 * w))), (4, .int v4)]) hx hb dX1_strongestFor_106 rfl hl (by decide) rfl (fun ls hl => ?_)
          refine lv_goto (tgt := 123) hx hb dX1_strongestFor_107 (by decide) ?_
          exact j_123 _ hK79 _ _ _ _  hv _ _ _ hE (lv_sub hl [2, 0, 1, 3] rfl)
  have j_66 : ∀ (K10 : (Int32 × Int32 × St) → Prop), (∀ (v1 : Int32) (v2 : Int32) (g : St), K10 (v1, v2, g) → ∀ (H : Heap) (locs : List Loc) (ls : Array Slot), uE D 52 gA (gO cs a) cs a F s g H locs → lv_has ls 5 [(0, .ref (a (1 + 10 * w))), (1, .int v1), (2, .int v2)] → W p l e rm_X1_strongestFor s m args below meth c H locs 0 0 (MQ below (va_Qi post (uB D (uW 52 gA (gO cs a) cs a)) F) args s 0 0 F) (F0 m 10 ls [])) → ∀ (v1 : Int32) (v2 : Int32) (g : St), J_X1_strongestFor_66 w x1 post K10 v1 v2 g → ∀ (H : Heap) (locs : List Loc) (ls : Array Slot), uE D 52 gA (gO cs a) cs a F s g H locs → lv_has ls 5 [(0, .ref (a (1 + 10 * w))), (1, .int v1), (2, .int v2)] → W p l e rm_X1_strongestFor s m args below meth c H locs 0 0 (MQ below (va_Qi post (uB D (uW 52 gA (gO cs a) cs a)) F) args s 0 0 F) (F0 m 66 ls []) := by
    intro K10 hK10 v1 v2 g  hv
    intro H locs ls hE hl
    unfold J_X1_strongestFor_66 at hv
    refine lv_iinc (v := (v2 + 1)) (lv' := [(2, .int (v2 + 1)), (0, .ref (a (1 + 10 * w))), (1, .int v1)]) hx hb dX1_strongestFor_66 hl (k := 2) rfl rfl (by decide) rfl (fun ls hl => ?_)
    refine lv_goto (tgt := 10) hx hb dX1_strongestFor_69 (by decide) ?_
    exact hK10 _ _ _  hv _ _ _ hE (lv_sub hl [1, 2, 0] rfl)
  have j_10 : ∀ (v1 : Int32) (v2 : Int32) (g : St), lpP (fun K10 (z : Int32 × Int32 × St) => J_X1_strongestFor_10 w x1 post K10 z.1 z.2.1 z.2.2) (v1, v2, g) → ∀ (H : Heap) (locs : List Loc) (ls : Array Slot), uE D 52 gA (gO cs a) cs a F s g H locs → lv_has ls 5 [(0, .ref (a (1 + 10 * w))), (1, .int v1), (2, .int v2)] → W p l e rm_X1_strongestFor s m args below meth c H locs 0 0 (MQ below (va_Qi post (uB D (uW 52 gA (gO cs a) cs a)) F) args s 0 0 F) (F0 m 10 ls []) := by
    intro  v1 v2 g  hv
    obtain ⟨nn, hv⟩ := hv
    induction nn generalizing v1 v2 g with
    | zero => exact False.elim hv
    | succ nn hK10 =>
      intro H locs ls hE hl
      have hv : J_X1_strongestFor_10 w x1 post (itP _ nn) v1 v2 g := hv
      unfold J_X1_strongestFor_10 at hv
      refine lv_iload_n hx hb dX1_strongestFor_10 rfl (lv_at hl 2 rfl) ?_
      refine lv_aload_n hx hb dX1_strongestFor_11 rfl (lv_at hl 0 rfl) ?_
      refine G_get (v := .ref (a (4 + 10 * w))) hC hE (fun _ h => List.mem_cons_of_mem _ (List.mem_append_left _ (List.mem_append_left _ (List.mem_append_right _ h)))) (f_field hw) rfl 1 (by decide) (hts (.fieldLink RX1 21 "SeedBattle$Field" "units" "LSeedBattle$Units;") (List.mem_of_getElem? (i := 2) rfl)) rfl dX1_strongestFor_12 ?_
      refine G_getN (v := .int (g.2 (3 + w))) hC hE (fun _ h => List.mem_cons_of_mem _ (List.mem_append_left _ (List.mem_append_right _ h))) (f_units hw) rfl 4 (by decide) (List.mem_of_getElem? (i := 6) rfl) rfl dX1_strongestFor_15 ?_
      refine lv_icmp_ge (tgt := 72) hx hb dX1_strongestFor_18 (by decide) (fun c => ?_) (fun c => ?_)
      · have hv := hv.1 c
        refine lv_iconst (v := (-1)) hx hb dX1_strongestFor_72 (by decide) ?_
        refine lv_istore_n (lv' := [(2, .int (-1)), (0, .ref (a (1 + 10 * w))), (1, .int v1)]) hx hb dX1_strongestFor_73 rfl hl (by decide) rfl (fun ls hl => ?_)
        refine lv_iconst (v := 0) hx hb dX1_strongestFor_74 (by decide) ?_
        refine lv_istore_n (lv' := [(3, .int 0), (2, .int (-1)), (0, .ref (a (1 + 10 * w))), (1, .int v1)]) hx hb dX1_strongestFor_75 rfl hl (by decide) rfl (fun ls hl => ?_)
        refine lv_iconst (v := 0) hx hb dX1_strongestFor_76 (by decide) ?_
        refine lv_istore (lv' := [(4, .int 0), (3, .int 0), (2, .int (-1)), (0, .ref (a (1 + 10 * w))), (1, .int v1)]) hx hb dX1_strongestFor_77 hl (by decide) rfl (fun ls hl => ?_)
        exact j_79  _ _ _ _  hv _ _ _ hE (lv_sub hl [3, 2, 1, 0] rfl)
      · have hv := hv.2 c
        refine lv_aload_n hx hb dX1_strongestFor_21 rfl (lv_at hl 0 rfl) ?_
        refine G_get (v := .ref (a (4 + 10 * w))) hC hE (fun _ h => List.mem_cons_of_mem _ (List.mem_append_left _ (List.mem_append_left _ (List.mem_append_right _ h)))) (f_field hw) rfl 1 (by decide) (hts (.fieldLink RX1 21 "SeedBattle$Field" "units" "LSeedBattle$Units;") (List.mem_of_getElem? (i := 2) rfl)) rfl dX1_strongestFor_22 ?_
        refine lv_iload_n hx hb dX1_strongestFor_25 rfl (lv_at hl 2 rfl) ?_
        refine G_callVi hC (c_X5_owner l D cs az a (w := w) hw v2 g _ hv) (cwV 1 hts gX1_strongestFor_X5_owner rfl rfl rfl (by decide +kernel) ⟨Nat.le_of_ble_eq_true rfl, Nat.le_of_ble_eq_true rfl⟩) (f_units hw) rfl rfl hl rfl (Nat.le_of_ble_eq_true rfl) dX1_strongestFor_26 hE (fun r3 g2 H locs hv hE => ?_)
        refine lv_istore_n (lv' := [(3, .int r3), (0, .ref (a (1 + 10 * w))), (1, .int v1), (2, .int v2)]) hx hb dX1_strongestFor_29 rfl hl (by decide) rfl (fun ls hl => ?_)
        refine lv_aload_n hx hb dX1_strongestFor_30 rfl (lv_at hl 1 rfl) ?_
        refine G_get (v := .ref (a (9 + 10 * w))) hC hE (fun _ h => List.mem_cons_of_mem _ (List.mem_append_left _ (List.mem_append_left _ (List.mem_append_right _ h)))) (f_field hw) rfl 2 (by decide) (hts (.fieldLink RX1 25 "SeedBattle$Field" "wants" "[I") (List.mem_of_getElem? (i := 3) rfl)) rfl dX1_strongestFor_31 ?_
        refine lv_iload_n hx hb dX1_strongestFor_34 rfl (lv_at hl 3 rfl) ?_
        refine G_iald hC hE (f_wants hw) hv.1 dX1_strongestFor_35 ?_
        have hv := hv.2
        refine lv_iload_n hx hb dX1_strongestFor_36 rfl (lv_at hl 2 rfl) ?_
        refine lv_icmp_ne (tgt := 66) hx hb dX1_strongestFor_37 (by decide) (fun c => ?_) (fun c => ?_)
        · have hv := hv.1 c
          exact j_66 _ hK10 _ _ _  hv _ _ _ hE (lv_sub hl [1, 2, 3] rfl)
        · have hv := hv.2 c
          refine lv_iload_n hx hb dX1_strongestFor_40 rfl (lv_at hl 0 rfl) ?_
          refine lv_if_lt (tgt := 66) hx hb dX1_strongestFor_41 (by decide) (fun c => ?_) (fun c => ?_)
          · have hv := hv.1 c
            exact j_66 _ hK10 _ _ _  hv _ _ _ hE (lv_sub hl [1, 2, 3] rfl)
          · have hv := hv.2 c
            refine lv_iload_n hx hb dX1_strongestFor_44 rfl (lv_at hl 0 rfl) ?_
            refine lv_iconst (v := 4) hx hb dX1_strongestFor_45 (by decide) ?_
            refine lv_icmp_ge (tgt := 66) hx hb dX1_strongestFor_46 (by decide) (fun c => ?_) (fun c => ?_)
            · have hv := hv.1 c
              exact j_66 _ hK10 _ _ _  hv _ _ _ hE (lv_sub hl [1, 2, 3] rfl)
            · have hv := hv.2 c
              refine lv_aload_n hx hb dX1_strongestFor_49 rfl (lv_at hl 1 rfl) ?_
              refine G_get (v := .ref (a (10 + 10 * w))) hC hE (fun _ h => List.mem_cons_of_mem _ (List.mem_append_left _ (List.mem_append_left _ (List.mem_append_right _ h)))) (f_field hw) rfl 3 (by decide) (hts (.fieldLink RX1 29 "SeedBattle$Field" "powers" "[I") (List.mem_of_getElem? (i := 1) rfl)) rfl dX1_strongestFor_50 ?_
              refine lv_iload_n hx hb dX1_strongestFor_53 rfl (lv_at hl 0 rfl) ?_
              refine lv_dup2_11 hx hb dX1_strongestFor_54 rfl rfl ?_
              refine G_iald hC hE (f_powers hw) hv.1 dX1_strongestFor_55 ?_
              have hv := hv.2
              refine lv_aload_n hx hb dX1_strongestFor_56 rfl (lv_at hl 1 rfl) ?_
              refine G_get (v := .ref (a (4 + 10 * w))) hC hE (fun _ h => List.mem_cons_of_mem _ (List.mem_append_left _ (List.mem_append_left _ (List.mem_append_right _ h)))) (f_field hw) rfl 1 (by decide) (hts (.fieldLink RX1 21 "SeedBattle$Field" "units" "LSeedBattle$Units;") (List.mem_of_getElem? (i := 2) rfl)) rfl dX1_strongestFor_57 ?_
              refine lv_iload_n hx hb dX1_strongestFor_60 rfl (lv_at hl 3 rfl) ?_
              refine G_callVi hC (c_X5_power l D cs az a (w := w) hw v2 g2 _ hv) (cwV 1 hts gX1_strongestFor_X5_power rfl rfl rfl (by decide +kernel) ⟨Nat.le_of_ble_eq_true rfl, Nat.le_of_ble_eq_true rfl⟩) (f_units hw) rfl rfl hl rfl (Nat.le_of_ble_eq_true rfl) dX1_strongestFor_61 hE (fun r5 g4 H locs hv hE => ?_)
              refine lv_iadd hx hb dX1_strongestFor_64 ?_
              refine G_iast hC hE (f_powers hw) hv.1 dX1_strongestFor_65 (fun H locs hE => ?_)
              have hv := hv.2
              exact j_66 _ hK10 _ _ _  hv _ _ _ hE (lv_sub hl [1, 2, 3] rfl)
  refine lv_aload_n hx hb dX1_strongestFor_0 rfl (lv_at hl 0 rfl) ?_
  refine G_get (v := .ref (a (10 + 10 * w))) hC hE (fun _ h => List.mem_cons_of_mem _ (List.mem_append_left _ (List.mem_append_left _ (List.mem_append_right _ h)))) (f_field hw) rfl 3 (by decide) (hts (.fieldLink RX1 29 "SeedBattle$Field" "powers" "[I") (List.mem_of_getElem? (i := 1) rfl)) rfl dX1_strongestFor_1 ?_
  refine lv_iconst (v := 0) hx hb dX1_strongestFor_4 (by decide) ?_
  refine G_callSv hC (c_J7_fill_53178 l D cs az a (k := (10 + 10 * w)) (N := 4) (f_powers hw) 0 g _ hv) (va_cwS 2 hts gX1_strongestFor_J7_fill_53178 rfl rfl rfl (by decide +kernel) ⟨Nat.le_of_ble_eq_true rfl, Nat.le_of_ble_eq_true rfl⟩) rfl hl rfl (Nat.le_of_ble_eq_true rfl) dX1_strongestFor_5 hE (fun g1 H locs hv hE => ?_)
  refine lv_iconst (v := 0) hx hb dX1_strongestFor_8 (by decide) ?_
  refine lv_istore_n (lv' := [(2, .int 0), (0, .ref (a (1 + 10 * w))), (1, .int x1)]) hx hb dX1_strongestFor_9 rfl hl (by decide) rfl (fun ls hl => ?_)
  exact j_10  _ _ _  hv _ _ _ hE (lv_sub hl [1, 2, 0] rfl)
def J_X1_lookAt_60 (w : Nat) (x1 : Int32) (post : Int32 → St → Prop)  (v1 : Int32) (g : St) : Prop := V_X1_turnBack w v1 (-1) g (fun g8 => post 0 g8)
def J_X1_lookAt_30 (w : Nat) (x1 : Int32) (post : Int32 → St → Prop)  (v1 : Int32) (v3 : Int32) (g : St) : Prop := V_X1_firstMover w v1 v3 g (fun r10 g9 => V_X1_turnBack w v1 r10 g9 (fun g11 => post 0 g11))
def V_X1_lookAt (w : Nat) (x1 : Int32) (g : St) (post : Int32 → St → Prop) : Prop := V_X5_on w x1 g (fun r2 g1 => V_X1_strongestFor w x1 g1 (fun r4 g3 => ((r2 = (-1) → J_X1_lookAt_30 w x1 post x1 r4 g3) ∧ (¬ r2 = (-1) → vp_in r2 24 ∧ ((((g3.1 (9 + 10 * w) (Int32.toNatClampNeg r2)) = x1 → ((r4 = (-1) → J_X1_lookAt_60 w x1 post x1 g3) ∧ (¬ r4 = (-1) → V_X5_owner w r2 g3 (fun r6 g5 => ((¬ r4 = r6 → V_X1_lose w r2 g5 (fun g7 => post 1 g7)) ∧ (r4 = r6 → J_X1_lookAt_60 w x1 post x1 g5)))))) ∧ (¬ (g3.1 (9 + 10 * w) (Int32.toNatClampNeg r2)) = x1 → J_X1_lookAt_30 w x1 post x1 r4 g3)))))))
abbrev rm_X1_lookAt : Room := { frames := 2, cells := 0, slots := 0, locals := 47 }
set_option maxHeartbeats 4000000 in
set_option maxRecDepth 100000 in
theorem c_X1_lookAt (l : Launch) (D : va_G) (cs az a : Nat → Nat) {w : Nat} (hw : w < 2) (x1 : Int32) (g : St) (post : Int32 → St → Prop) (hv : V_X1_lookAt w x1 g post) : uMi l yX1_lookAt wsX1_lookAt rm_X1_lookAt D cs az (gW cs a) [.ref (a (1 + 10 * w)), .int x1] g post := by
  refine u_ofI (cc := cX1_lookAt) (maxL := 4) (by decide) rfl (Nat.le_of_ble_eq_true rfl) ?_
  intro p e s m args below meth c F ls hC hr hk hl hE
  have hx := hC.1.1; have hb := hC.1.2.1; have hml := hC.1.2.2.1; have hts := hC.1.2.2.2.2
  have hown : s.vm.findClass RX1 = some m.cls := hC.1.2.2.2.1
  have hl : lv_has ls 4 [(0, .ref (a (1 + 10 * w))), (1, .int x1)] := hl
  unfold V_X1_lookAt at hv
  have j_60 : ∀ (v1 : Int32) (g : St), J_X1_lookAt_60 w x1 post v1 g → ∀ (H : Heap) (locs : List Loc) (ls : Array Slot), uE D 52 gA (gO cs a) cs a F s g H locs → lv_has ls 4 [(0, .ref (a (1 + 10 * w))), (1, .int v1)] → W p l e rm_X1_lookAt s m args below meth c H locs 0 0 (MQ below (va_Qi post (uB D (uW 52 gA (gO cs a) cs a)) F) args s 0 0 F) (F0 m 60 ls []) := by
    intro  v1 g  hv
    intro H locs ls hE hl
    unfold J_X1_lookAt_60 at hv
    refine lv_aload_n hx hb dX1_lookAt_60 rfl (lv_at hl 0 rfl) ?_
    refine lv_iload_n hx hb dX1_lookAt_61 rfl (lv_at hl 1 rfl) ?_
    refine lv_iconst (v := (-1)) hx hb dX1_lookAt_62 (by decide) ?_
    refine G_callVv hC (c_X1_turnBack l D cs az a (w := w) hw v1 (-1) g _ hv) (cwV 2 hts gX1_lookAt_X1_turnBack rfl rfl rfl (by decide +kernel) ⟨Nat.le_of_ble_eq_true rfl, Nat.le_of_ble_eq_true rfl⟩) (f_field hw) rfl rfl hl rfl (Nat.le_of_ble_eq_true rfl) dX1_lookAt_63 hE (fun g8 H locs hv hE => ?_)
    refine lv_iconst (v := 0) hx hb dX1_lookAt_66 (by decide) ?_
    exact G_iret hC hr hk hE hv dX1_lookAt_67
  have j_30 : ∀ (v1 : Int32) (v3 : Int32) (g : St), J_X1_lookAt_30 w x1 post v1 v3 g → ∀ (H : Heap) (locs : List Loc) (ls : Array Slot), uE D 52 gA (gO cs a) cs a F s g H locs → lv_has ls 4 [(0, .ref (a (1 + 10 * w))), (1, .int v1), (3, .int v3)] → W p l e rm_X1_lookAt s m args below meth c H locs 0 0 (MQ below (va_Qi post (uB D (uW 52 gA (gO cs a) cs a)) F) args s 0 0 F) (F0 m 30 ls []) := by
    intro  v1 v3 g  hv
    intro H locs ls hE hl
    unfold J_X1_lookAt_30 at hv
    refine lv_aload_n hx hb dX1_lookAt_30 rfl (lv_at hl 0 rfl) ?_
    refine lv_iload_n hx hb dX1_lookAt_31 rfl (lv_at hl 1 rfl) ?_
    refine lv_aload_n hx hb dX1_lookAt_32 rfl (lv_at hl 0 rfl) ?_
    refine lv_iload_n hx hb dX1_lookAt_33 rfl (lv_at hl 1 rfl) ?_
    refine lv_iload_n hx hb dX1_lookAt_34 rfl (lv_at hl 2 rfl) ?_
    refine G_callVi hC (c_X1_firstMover l D cs az a (w := w) hw v1 v3 g _ hv) (cwV 2 hts gX1_lookAt_X1_firstMover rfl rfl rfl (by decide +kernel) ⟨Nat.le_of_ble_eq_true rfl, Nat.le_of_ble_eq_true rfl⟩) (f_field hw) rfl rfl hl rfl (Nat.le_of_ble_eq_true rfl) dX1_lookAt_35 hE (fun r10 g9 H locs hv hE => ?_)
    refine G_callVv hC (c_X1_turnBack l D cs az a (w := w) hw v1 r10 g9 _ hv) (cwV 2 hts gX1_lookAt_X1_turnBack rfl rfl rfl (by decide +kernel) ⟨Nat.le_of_ble_eq_true rfl, Nat.le_of_ble_eq_true rfl⟩) (f_field hw) rfl rfl hl rfl (Nat.le_of_ble_eq_true rfl) dX1_lookAt_38 hE (fun g11 H locs hv hE => ?_)
    refine lv_iconst (v := 0) hx hb dX1_lookAt_41 (by decide) ?_
    exact G_iret hC hr hk hE hv dX1_lookAt_42
  refine lv_aload_n hx hb dX1_lookAt_0 rfl (lv_at hl 0 rfl) ?_
  refine G_get (v := .ref (a (4 + 10 * w))) hC hE (fun _ h => List.mem_cons_of_mem _ (List.mem_append_left _ (List.mem_append_left _ (List.mem_append_right _ h)))) (f_field hw) rfl 1 (by decide) (hts (.fieldLink RX1 21 "SeedBattle$Field" "units" "LSeedBattle$Units;") (List.mem_of_getElem? (i := 1) rfl)) rfl dX1_lookAt_1 ?_
  refine lv_iload_n hx hb dX1_lookAt_4 rfl (lv_at hl 1 rfl) ?_
  refine G_callVi hC (c_X5_on l D cs az a (w := w) hw x1 g _ hv) (cwV 1 hts gX1_lookAt_X5_on rfl rfl rfl (by decide +kernel) ⟨Nat.le_of_ble_eq_true rfl, Nat.le_of_ble_eq_true rfl⟩) (f_units hw) rfl rfl hl rfl (Nat.le_of_ble_eq_true rfl) dX1_lookAt_5 hE (fun r2 g1 H locs hv hE => ?_)
  refine lv_istore_n (lv' := [(2, .int r2), (0, .ref (a (1 + 10 * w))), (1, .int x1)]) hx hb dX1_lookAt_8 rfl hl (by decide) rfl (fun ls hl => ?_)
  refine lv_aload_n hx hb dX1_lookAt_9 rfl (lv_at hl 1 rfl) ?_
  refine lv_iload_n hx hb dX1_lookAt_10 rfl (lv_at hl 2 rfl) ?_
  refine G_callVi hC (c_X1_strongestFor l D cs az a (w := w) hw x1 g1 _ hv) (cwV 1 hts gX1_lookAt_X1_strongestFor rfl rfl rfl (by decide +kernel) ⟨Nat.le_of_ble_eq_true rfl, Nat.le_of_ble_eq_true rfl⟩) (f_field hw) rfl rfl hl rfl (Nat.le_of_ble_eq_true rfl) dX1_lookAt_11 hE (fun r4 g3 H locs hv hE => ?_)
  refine lv_istore_n (lv' := [(3, .int r4), (2, .int r2), (0, .ref (a (1 + 10 * w))), (1, .int x1)]) hx hb dX1_lookAt_14 rfl hl (by decide) rfl (fun ls hl => ?_)
  refine lv_iload_n hx hb dX1_lookAt_15 rfl (lv_at hl 1 rfl) ?_
  refine lv_iconst (v := (-1)) hx hb dX1_lookAt_16 (by decide) ?_
  refine lv_icmp_eq (tgt := 30) hx hb dX1_lookAt_17 (by decide) (fun c => ?_) (fun c => ?_)
  · have hv := hv.1 c
    exact j_30  _ _ _  hv _ _ _ hE (lv_sub hl [2, 3, 0] rfl)
  · have hv := hv.2 c
    refine lv_aload_n hx hb dX1_lookAt_20 rfl (lv_at hl 2 rfl) ?_
    refine G_get (v := .ref (a (9 + 10 * w))) hC hE (fun _ h => List.mem_cons_of_mem _ (List.mem_append_left _ (List.mem_append_left _ (List.mem_append_right _ h)))) (f_field hw) rfl 2 (by decide) (hts (.fieldLink RX1 25 "SeedBattle$Field" "wants" "[I") (List.mem_of_getElem? (i := 2) rfl)) rfl dX1_lookAt_21 ?_
    refine lv_iload_n hx hb dX1_lookAt_24 rfl (lv_at hl 1 rfl) ?_
    refine G_iald hC hE (f_wants hw) hv.1 dX1_lookAt_25 ?_
    have hv := hv.2
    refine lv_iload_n hx hb dX1_lookAt_26 rfl (lv_at hl 3 rfl) ?_
    refine lv_icmp_eq (tgt := 43) hx hb dX1_lookAt_27 (by decide) (fun c => ?_) (fun c => ?_)
    · have hv := hv.1 c
      refine lv_iload_n hx hb dX1_lookAt_43 rfl (lv_at hl 0 rfl) ?_
      refine lv_iconst (v := (-1)) hx hb dX1_lookAt_44 (by decide) ?_
      refine lv_icmp_eq (tgt := 60) hx hb dX1_lookAt_45 (by decide) (fun c => ?_) (fun c => ?_)
      · have hv := hv.1 c
        exact j_60  _ _  hv _ _ _ hE (lv_sub hl [2, 3] rfl)
      · have hv := hv.2 c
        refine lv_iload_n hx hb dX1_lookAt_48 rfl (lv_at hl 0 rfl) ?_
        refine lv_aload_n hx hb dX1_lookAt_49 rfl (lv_at hl 2 rfl) ?_
        refine G_get (v := .ref (a (4 + 10 * w))) hC hE (fun _ h => List.mem_cons_of_mem _ (List.mem_append_left _ (List.mem_append_left _ (List.mem_append_right _ h)))) (f_field hw) rfl 1 (by decide) (hts (.fieldLink RX1 21 "SeedBattle$Field" "units" "LSeedBattle$Units;") (List.mem_of_getElem? (i := 1) rfl)) rfl dX1_lookAt_50 ?_
        refine lv_iload_n hx hb dX1_lookAt_53 rfl (lv_at hl 1 rfl) ?_
        refine G_callVi hC (c_X5_owner l D cs az a (w := w) hw r2 g3 _ hv) (cwV 1 hts gX1_lookAt_X5_owner rfl rfl rfl (by decide +kernel) ⟨Nat.le_of_ble_eq_true rfl, Nat.le_of_ble_eq_true rfl⟩) (f_units hw) rfl rfl hl rfl (Nat.le_of_ble_eq_true rfl) dX1_lookAt_54 hE (fun r6 g5 H locs hv hE => ?_)
        refine lv_icmp_ne (tgt := 68) hx hb dX1_lookAt_57 (by decide) (fun c => ?_) (fun c => ?_)
        · have hv := hv.1 c
          refine lv_aload_n hx hb dX1_lookAt_68 rfl (lv_at hl 2 rfl) ?_
          refine lv_iload_n hx hb dX1_lookAt_69 rfl (lv_at hl 1 rfl) ?_
          refine G_callVv hC (c_X1_lose l D cs az a (w := w) hw r2 g5 _ hv) (cwV 1 hts gX1_lookAt_X1_lose rfl rfl rfl (by decide +kernel) ⟨Nat.le_of_ble_eq_true rfl, Nat.le_of_ble_eq_true rfl⟩) (f_field hw) rfl rfl hl rfl (Nat.le_of_ble_eq_true rfl) dX1_lookAt_70 hE (fun g7 H locs hv hE => ?_)
          refine lv_iconst (v := 1) hx hb dX1_lookAt_73 (by decide) ?_
          exact G_iret hC hr hk hE hv dX1_lookAt_74
        · have hv := hv.2 c
          exact j_60  _ _  hv _ _ _ hE (lv_sub hl [2, 3] rfl)
    · have hv := hv.2 c
      exact j_30  _ _ _  hv _ _ _ hE (lv_sub hl [2, 3, 0] rfl)
def J_X1_settleCells_4 (w : Nat) (post : Int32 → St → Prop) (K4 : (Int32 × Int32 × St) → Prop) (v1 : Int32) (v2 : Int32) (g : St) : Prop := ((48 ≤ v2 → post v1 g) ∧ (¬ 48 ≤ v2 → V_X1_lowestContested w g (fun r2 g1 => ((¬ r2 = (-1) → V_X1_lookAt w r2 g1 (fun r4 g3 => K4 ((v1 + r4), (v2 + 1), g3))) ∧ (r2 = (-1) → post v1 g1)))))
def V_X1_settleCells (w : Nat) (g : St) (post : Int32 → St → Prop) : Prop := lpP (fun K4 (z : Int32 × Int32 × St) => J_X1_settleCells_4 w post K4 z.1 z.2.1 z.2.2) (0, 0, g)
abbrev rm_X1_settleCells : Room := { frames := 3, cells := 0, slots := 0, locals := 70 }
set_option maxHeartbeats 4000000 in
set_option maxRecDepth 100000 in
theorem c_X1_settleCells (l : Launch) (D : va_G) (cs az a : Nat → Nat) {w : Nat} (hw : w < 2)  (g : St) (post : Int32 → St → Prop) (hv : V_X1_settleCells w g post) : uMi l yX1_settleCells wsX1_settleCells rm_X1_settleCells D cs az (gW cs a) [.ref (a (1 + 10 * w))] g post := by
  refine u_ofI (cc := cX1_settleCells) (maxL := 4) (by decide) rfl (Nat.le_of_ble_eq_true rfl) ?_
  intro p e s m args below meth c F ls hC hr hk hl hE
  have hx := hC.1.1; have hb := hC.1.2.1; have hml := hC.1.2.2.1; have hts := hC.1.2.2.2.2
  have hown : s.vm.findClass RX1 = some m.cls := hC.1.2.2.2.1
  have hl : lv_has ls 4 [(0, .ref (a (1 + 10 * w)))] := hl
  unfold V_X1_settleCells at hv
  have j_4 : ∀ (v1 : Int32) (v2 : Int32) (g : St), lpP (fun K4 (z : Int32 × Int32 × St) => J_X1_settleCells_4 w post K4 z.1 z.2.1 z.2.2) (v1, v2, g) → ∀ (H : Heap) (locs : List Loc) (ls : Array Slot), uE D 52 gA (gO cs a) cs a F s g H locs → lv_has ls 4 [(0, .ref (a (1 + 10 * w))), (1, .int v1), (2, .int v2)] → W p l e rm_X1_settleCells s m args below meth c H locs 0 0 (MQ below (va_Qi post (uB D (uW 52 gA (gO cs a) cs a)) F) args s 0 0 F) (F0 m 4 ls []) := by
    intro  v1 v2 g  hv
    obtain ⟨nn, hv⟩ := hv
    induction nn generalizing v1 v2 g with
    | zero => exact False.elim hv
    | succ nn hK4 =>
      intro H locs ls hE hl
      have hv : J_X1_settleCells_4 w post (itP _ nn) v1 v2 g := hv
      unfold J_X1_settleCells_4 at hv
      refine lv_iload_n hx hb dX1_settleCells_4 rfl (lv_at hl 2 rfl) ?_
      refine lv_bipush (v := 48) hx hb dX1_settleCells_5 (by decide) ?_
      refine lv_icmp_ge (tgt := 36) hx hb dX1_settleCells_7 (by decide) (fun c => ?_) (fun c => ?_)
      · have hv := hv.1 c
        refine lv_iload_n hx hb dX1_settleCells_36 rfl (lv_at hl 1 rfl) ?_
        exact G_iret hC hr hk hE hv dX1_settleCells_37
      · have hv := hv.2 c
        refine lv_aload_n hx hb dX1_settleCells_10 rfl (lv_at hl 0 rfl) ?_
        refine G_callVi hC (c_X1_lowestContested l D cs az a (w := w) hw  g _ hv) (cwV 0 hts gX1_settleCells_X1_lowestContested rfl rfl rfl (by decide +kernel) ⟨Nat.le_of_ble_eq_true rfl, Nat.le_of_ble_eq_true rfl⟩) (f_field hw) rfl rfl hl rfl (Nat.le_of_ble_eq_true rfl) dX1_settleCells_11 hE (fun r2 g1 H locs hv hE => ?_)
        refine lv_istore_n (lv' := [(3, .int r2), (0, .ref (a (1 + 10 * w))), (1, .int v1), (2, .int v2)]) hx hb dX1_settleCells_14 rfl hl (by decide) rfl (fun ls hl => ?_)
        refine lv_iload_n hx hb dX1_settleCells_15 rfl (lv_at hl 0 rfl) ?_
        refine lv_iconst (v := (-1)) hx hb dX1_settleCells_16 (by decide) ?_
        refine lv_icmp_ne (tgt := 22) hx hb dX1_settleCells_17 (by decide) (fun c => ?_) (fun c => ?_)
        · have hv := hv.1 c
          refine lv_iload_n hx hb dX1_settleCells_22 rfl (lv_at hl 2 rfl) ?_
          refine lv_aload_n hx hb dX1_settleCells_23 rfl (lv_at hl 1 rfl) ?_
          refine lv_iload_n hx hb dX1_settleCells_24 rfl (lv_at hl 0 rfl) ?_
          refine G_callVi hC (c_X1_lookAt l D cs az a (w := w) hw r2 g1 _ hv) (cwV 1 hts gX1_settleCells_X1_lookAt rfl rfl rfl (by decide +kernel) ⟨Nat.le_of_ble_eq_true rfl, Nat.le_of_ble_eq_true rfl⟩) (f_field hw) rfl rfl hl rfl (Nat.le_of_ble_eq_true rfl) dX1_settleCells_25 hE (fun r4 g3 H locs hv hE => ?_)
          refine lv_iadd hx hb dX1_settleCells_28 ?_
          refine lv_istore_n (lv' := [(1, .int (v1 + r4)), (3, .int r2), (0, .ref (a (1 + 10 * w))), (2, .int v2)]) hx hb dX1_settleCells_29 rfl hl (by decide) rfl (fun ls hl => ?_)
          refine lv_iinc (v := (v2 + 1)) (lv' := [(2, .int (v2 + 1)), (1, .int (v1 + r4)), (3, .int r2), (0, .ref (a (1 + 10 * w)))]) hx hb dX1_settleCells_30 hl (k := 3) rfl rfl (by decide) rfl (fun ls hl => ?_)
          refine lv_goto (tgt := 4) hx hb dX1_settleCells_33 (by decide) ?_
          exact hK4 _ _ _  hv _ _ _ hE (lv_sub hl [3, 1, 0] rfl)
        · have hv := hv.2 c
          refine lv_iload_n hx hb dX1_settleCells_20 rfl (lv_at hl 2 rfl) ?_
          exact G_iret hC hr hk hE hv dX1_settleCells_21
  refine lv_iconst (v := 0) hx hb dX1_settleCells_0 (by decide) ?_
  refine lv_istore_n (lv' := [(1, .int 0), (0, .ref (a (1 + 10 * w)))]) hx hb dX1_settleCells_1 rfl hl (by decide) rfl (fun ls hl => ?_)
  refine lv_iconst (v := 0) hx hb dX1_settleCells_2 (by decide) ?_
  refine lv_istore_n (lv' := [(2, .int 0), (1, .int 0), (0, .ref (a (1 + 10 * w)))]) hx hb dX1_settleCells_3 rfl hl (by decide) rfl (fun ls hl => ?_)
  exact j_4  _ _ _  hv _ _ _ hE (lv_sub hl [2, 1, 0] rfl)
def J_X1_playTurn_40 (w : Nat) (x2 : Int32) (post : Int32 → St → Prop) (K5 : (Int32 × Int32 × Int32 × St) → Prop) (v2 : Int32) (v3 : Int32) (v4 : Int32) (g : St) : Prop := K5 (v2, v3, (v4 + 1), g)
def J_X1_playTurn_5 (w : Nat) (x2 : Int32) (post : Int32 → St → Prop) (K5 : (Int32 × Int32 × Int32 × St) → Prop) (v2 : Int32) (v3 : Int32) (v4 : Int32) (g : St) : Prop := ((2 ≤ v4 → post v3 g) ∧ (¬ 2 ≤ v4 → V_X1_readWants w v2 v4 g (fun r2 g1 => ((r2 = 0 → J_X1_playTurn_40 w x2 post K5 v2 v3 v4 g1) ∧ (¬ r2 = 0 → V_X1_meetPairs w g1 (fun r4 g3 => V_X1_settleCells w g3 (fun r6 g5 => V_X1_moveAll w g5 (fun g7 => J_X1_playTurn_40 w x2 post K5 v2 ((v3 + r4) + r6) v4 g7))))))))
def V_X1_playTurn (w : Nat) (x2 : Int32) (g : St) (post : Int32 → St → Prop) : Prop := lpP (fun K5 (z : Int32 × Int32 × Int32 × St) => J_X1_playTurn_5 w x2 post K5 z.1 z.2.1 z.2.2.1 z.2.2.2) (x2, 0, 0, g)
abbrev rm_X1_playTurn : Room := { frames := 4, cells := 0, slots := 0, locals := 93 }
set_option maxHeartbeats 4000000 in
set_option maxRecDepth 100000 in
theorem c_X1_playTurn (l : Launch) (D : va_G) (cs az a : Nat → Nat) {w : Nat} (hw : w < 2) (x2 : Int32) (g : St) (post : Int32 → St → Prop) (hv : V_X1_playTurn w x2 g post) : uMi l yX1_playTurn wsX1_playTurn rm_X1_playTurn D cs az (gW cs a) [.ref (a (1 + 10 * w)), .ref (a 21), .int x2] g post := by
  refine u_ofI (cc := cX1_playTurn) (maxL := 5) (by decide) rfl (Nat.le_of_ble_eq_true rfl) ?_
  intro p e s m args below meth c F ls hC hr hk hl hE
  have hx := hC.1.1; have hb := hC.1.2.1; have hml := hC.1.2.2.1; have hts := hC.1.2.2.2.2
  have hown : s.vm.findClass RX1 = some m.cls := hC.1.2.2.2.1
  have hl : lv_has ls 5 [(0, .ref (a (1 + 10 * w))), (1, .ref (a 21)), (2, .int x2)] := hl
  unfold V_X1_playTurn at hv
  have j_40 : ∀ (K5 : (Int32 × Int32 × Int32 × St) → Prop), (∀ (v2 : Int32) (v3 : Int32) (v4 : Int32) (g : St), K5 (v2, v3, v4, g) → ∀ (H : Heap) (locs : List Loc) (ls : Array Slot), uE D 52 gA (gO cs a) cs a F s g H locs → lv_has ls 5 [(0, .ref (a (1 + 10 * w))), (1, .ref (a 21)), (2, .int v2), (3, .int v3), (4, .int v4)] → W p l e rm_X1_playTurn s m args below meth c H locs 0 0 (MQ below (va_Qi post (uB D (uW 52 gA (gO cs a) cs a)) F) args s 0 0 F) (F0 m 5 ls [])) → ∀ (v2 : Int32) (v3 : Int32) (v4 : Int32) (g : St), J_X1_playTurn_40 w x2 post K5 v2 v3 v4 g → ∀ (H : Heap) (locs : List Loc) (ls : Array Slot), uE D 52 gA (gO cs a) cs a F s g H locs → lv_has ls 5 [(0, .ref (a (1 + 10 * w))), (1, .ref (a 21)), (2, .int v2), (3, .int v3), (4, .int v4)] → W p l e rm_X1_playTurn s m args below meth c H locs 0 0 (MQ below (va_Qi post (uB D (uW 52 gA (gO cs a) cs a)) F) args s 0 0 F) (F0 m 40 ls []) := by
    intro K5 hK5 v2 v3 v4 g  hv
    intro H locs ls hE hl
    unfold J_X1_playTurn_40 at hv
    refine lv_iinc (v := (v4 + 1)) (lv' := [(4, .int (v4 + 1)), (0, .ref (a (1 + 10 * w))), (1, .ref (a 21)), (2, .int v2), (3, .int v3)]) hx hb dX1_playTurn_40 hl (k := 4) rfl rfl (by decide) rfl (fun ls hl => ?_)
    refine lv_goto (tgt := 5) hx hb dX1_playTurn_43 (by decide) ?_
    exact hK5 _ _ _ _  hv _ _ _ hE (lv_sub hl [1, 2, 3, 4, 0] rfl)
  have j_5 : ∀ (v2 : Int32) (v3 : Int32) (v4 : Int32) (g : St), lpP (fun K5 (z : Int32 × Int32 × Int32 × St) => J_X1_playTurn_5 w x2 post K5 z.1 z.2.1 z.2.2.1 z.2.2.2) (v2, v3, v4, g) → ∀ (H : Heap) (locs : List Loc) (ls : Array Slot), uE D 52 gA (gO cs a) cs a F s g H locs → lv_has ls 5 [(0, .ref (a (1 + 10 * w))), (1, .ref (a 21)), (2, .int v2), (3, .int v3), (4, .int v4)] → W p l e rm_X1_playTurn s m args below meth c H locs 0 0 (MQ below (va_Qi post (uB D (uW 52 gA (gO cs a) cs a)) F) args s 0 0 F) (F0 m 5 ls []) := by
    intro  v2 v3 v4 g  hv
    obtain ⟨nn, hv⟩ := hv
    induction nn generalizing v2 v3 v4 g with
    | zero => exact False.elim hv
    | succ nn hK5 =>
      intro H locs ls hE hl
      have hv : J_X1_playTurn_5 w x2 post (itP _ nn) v2 v3 v4 g := hv
      unfold J_X1_playTurn_5 at hv
      refine lv_iload hx hb dX1_playTurn_5 (lv_at hl 4 rfl) ?_
      refine lv_iconst (v := 2) hx hb dX1_playTurn_7 (by decide) ?_
      refine lv_icmp_ge (tgt := 46) hx hb dX1_playTurn_8 (by decide) (fun c => ?_) (fun c => ?_)
      · have hv := hv.1 c
        refine lv_iload_n hx hb dX1_playTurn_46 rfl (lv_at hl 3 rfl) ?_
        exact G_iret hC hr hk hE hv dX1_playTurn_47
      · have hv := hv.2 c
        refine lv_aload_n hx hb dX1_playTurn_11 rfl (lv_at hl 0 rfl) ?_
        refine lv_aload_n hx hb dX1_playTurn_12 rfl (lv_at hl 1 rfl) ?_
        refine lv_iload_n hx hb dX1_playTurn_13 rfl (lv_at hl 2 rfl) ?_
        refine lv_iload hx hb dX1_playTurn_14 (lv_at hl 4 rfl) ?_
        refine G_callVi hC (c_X1_readWants l D cs az a (w := w) hw v2 v4 g _ hv) (cwV 3 hts gX1_playTurn_X1_readWants rfl rfl rfl (by decide +kernel) ⟨Nat.le_of_ble_eq_true rfl, Nat.le_of_ble_eq_true rfl⟩) (f_field hw) rfl rfl hl rfl (Nat.le_of_ble_eq_true rfl) dX1_playTurn_16 hE (fun r2 g1 H locs hv hE => ?_)
        refine lv_if_eq (tgt := 40) hx hb dX1_playTurn_19 (by decide) (fun c => ?_) (fun c => ?_)
        · have hv := hv.1 c
          exact j_40 _ hK5 _ _ _ _  hv _ _ _ hE (lv_sub hl [0, 1, 2, 3, 4] rfl)
        · have hv := hv.2 c
          refine lv_iload_n hx hb dX1_playTurn_22 rfl (lv_at hl 3 rfl) ?_
          refine lv_aload_n hx hb dX1_playTurn_23 rfl (lv_at hl 0 rfl) ?_
          refine G_callVi hC (c_X1_meetPairs l D cs az a (w := w) hw  g1 _ hv) (cwV 0 hts gX1_playTurn_X1_meetPairs rfl rfl rfl (by decide +kernel) ⟨Nat.le_of_ble_eq_true rfl, Nat.le_of_ble_eq_true rfl⟩) (f_field hw) rfl rfl hl rfl (Nat.le_of_ble_eq_true rfl) dX1_playTurn_24 hE (fun r4 g3 H locs hv hE => ?_)
          refine lv_iadd hx hb dX1_playTurn_27 ?_
          refine lv_istore_n (lv' := [(3, .int (v3 + r4)), (0, .ref (a (1 + 10 * w))), (1, .ref (a 21)), (2, .int v2), (4, .int v4)]) hx hb dX1_playTurn_28 rfl hl (by decide) rfl (fun ls hl => ?_)
          refine lv_iload_n hx hb dX1_playTurn_29 rfl (lv_at hl 0 rfl) ?_
          refine lv_aload_n hx hb dX1_playTurn_30 rfl (lv_at hl 1 rfl) ?_
          refine G_callVi hC (c_X1_settleCells l D cs az a (w := w) hw  g3 _ hv) (cwV 0 hts gX1_playTurn_X1_settleCells rfl rfl rfl (by decide +kernel) ⟨Nat.le_of_ble_eq_true rfl, Nat.le_of_ble_eq_true rfl⟩) (f_field hw) rfl rfl hl rfl (Nat.le_of_ble_eq_true rfl) dX1_playTurn_31 hE (fun r6 g5 H locs hv hE => ?_)
          refine lv_iadd hx hb dX1_playTurn_34 ?_
          refine lv_istore_n (lv' := [(3, .int ((v3 + r4) + r6)), (0, .ref (a (1 + 10 * w))), (1, .ref (a 21)), (2, .int v2), (4, .int v4)]) hx hb dX1_playTurn_35 rfl hl (by decide) rfl (fun ls hl => ?_)
          refine lv_aload_n hx hb dX1_playTurn_36 rfl (lv_at hl 1 rfl) ?_
          refine G_callVv hC (c_X1_moveAll l D cs az a (w := w) hw  g5 _ hv) (cwV 0 hts gX1_playTurn_X1_moveAll rfl rfl rfl (by decide +kernel) ⟨Nat.le_of_ble_eq_true rfl, Nat.le_of_ble_eq_true rfl⟩) (f_field hw) rfl rfl hl rfl (Nat.le_of_ble_eq_true rfl) dX1_playTurn_37 hE (fun g7 H locs hv hE => ?_)
          exact j_40 _ hK5 _ _ _ _  hv _ _ _ hE (lv_sub hl [1, 2, 3, 0, 4] rfl)
  refine lv_iconst (v := 0) hx hb dX1_playTurn_0 (by decide) ?_
  refine lv_istore_n (lv' := [(3, .int 0), (0, .ref (a (1 + 10 * w))), (1, .ref (a 21)), (2, .int x2)]) hx hb dX1_playTurn_1 rfl hl (by decide) rfl (fun ls hl => ?_)
  refine lv_iconst (v := 0) hx hb dX1_playTurn_2 (by decide) ?_
  refine lv_istore (lv' := [(4, .int 0), (3, .int 0), (0, .ref (a (1 + 10 * w))), (1, .ref (a 21)), (2, .int x2)]) hx hb dX1_playTurn_3 hl (by decide) rfl (fun ls hl => ?_)
  exact j_5  _ _ _ _  hv _ _ _ hE (lv_sub hl [2, 3, 4, 1, 0] rfl)
def V_X4_startTurn  (g : St) (post : St → Prop) : Prop := V_J7_fill_53178 23 24 0 g (fun g1 => post g1)
abbrev rm_X4_startTurn : Room := { frames := 1, cells := 0, slots := 0, locals := 23 }
set_option maxHeartbeats 4000000 in
set_option maxRecDepth 100000 in
theorem c_X4_startTurn (l : Launch) (D : va_G) (cs az a : Nat → Nat)  (g : St) (post : St → Prop) (hv : V_X4_startTurn  g post) : uMv l yX4_startTurn wsX4_startTurn rm_X4_startTurn D cs az (gW cs a) [.ref (a 21)] g post := by
  refine u_ofV (cc := cX4_startTurn) (maxL := 1) (by decide) rfl (Nat.le_of_ble_eq_true rfl) ?_
  intro p e s m args below meth c F ls hC hr hk hl hE
  have hx := hC.1.1; have hb := hC.1.2.1; have hml := hC.1.2.2.1; have hts := hC.1.2.2.2.2
  have hown : s.vm.findClass RX4 = some m.cls := hC.1.2.2.2.1
  have hl : lv_has ls 1 [(0, .ref (a 21))] := hl
  unfold V_X4_startTurn at hv
  refine lv_aload_n hx hb dX4_startTurn_0 rfl (lv_at hl 0 rfl) ?_
  refine G_get (v := .ref (a 23)) hC hE (fun _ h => List.mem_cons_of_mem _ (List.mem_append_right _ h)) f_orders rfl 1 (by decide) (hts (.fieldLink RX4 15 "SeedBattle$Orders" "given" "[I") (List.mem_of_getElem? (i := 1) rfl)) rfl dX4_startTurn_1 ?_
  refine lv_iconst (v := 0) hx hb dX4_startTurn_4 (by decide) ?_
  refine G_callSv hC (c_J7_fill_53178 l D cs az a (k := 23) (N := 24) f_given 0 g _ hv) (va_cwS 2 hts gX4_startTurn_J7_fill_53178 rfl rfl rfl (by decide +kernel) ⟨Nat.le_of_ble_eq_true rfl, Nat.le_of_ble_eq_true rfl⟩) rfl hl rfl (Nat.le_of_ble_eq_true rfl) dX4_startTurn_5 hE (fun g1 H locs hv hE => ?_)
  exact G_vret hC hr hk hE hv dX4_startTurn_8
def J_X3_grow_4 (w : Nat) (x1 : Int32) (post : St → Prop) (K4 : (Int32 × Int32 × St) → Prop) (v2 : Int32) (v3 : Int32) (g : St) : Prop := ((64 ≤ v3 → post g) ∧ (¬ 64 ≤ v3 → V_J0_charAt_5068e 0 (((Int32.toUInt32 ((v2 * 1103515245) + 12345) >>> (Int32.toUInt32 16 &&& Int32.toUInt32 31)).toInt32) - ((Int32.toUInt32 ((v2 * 1103515245) + 12345) >>> (Int32.toUInt32 16 &&& Int32.toUInt32 31)).toInt32) / 8 * 8) (fun r1 => vp_in v3 64 ∧ (K4 (((v2 * 1103515245) + 12345), (v3 + 1), (sA g (3 + 10 * w) (upd (g.1 (3 + 10 * w)) (Int32.toNatClampNeg v3) (vp_nar .char r1))))))))
def V_X3_grow (w : Nat) (x1 : Int32) (g : St) (post : St → Prop) : Prop := lpP (fun K4 (z : Int32 × Int32 × St) => J_X3_grow_4 w x1 post K4 z.1 z.2.1 z.2.2) (x1, 0, g)
abbrev rm_X3_grow : Room := { frames := 4, cells := 0, slots := 0, locals := 85 }
set_option maxHeartbeats 4000000 in
set_option maxRecDepth 100000 in
theorem c_X3_grow (l : Launch) (D : va_G) (cs az a : Nat → Nat) {w : Nat} (hw : w < 2) (x1 : Int32) (g : St) (post : St → Prop) (hv : V_X3_grow w x1 g post) : uMv l yX3_grow wsX3_grow rm_X3_grow D cs az (gW cs a) [.ref (a (2 + 10 * w)), .int x1] g post := by
  refine u_ofV (cc := cX3_grow) (maxL := 4) (by decide) rfl (Nat.le_of_ble_eq_true rfl) ?_
  intro p e s m args below meth c F ls hC hr hk hl hE
  have hx := hC.1.1; have hb := hC.1.2.1; have hml := hC.1.2.2.1; have hts := hC.1.2.2.2.2
  have hown : s.vm.findClass RX3 = some m.cls := hC.1.2.2.2.1
  have hl : lv_has ls 4 [(0, .ref (a (2 + 10 * w))), (1, .int x1)] := hl
  unfold V_X3_grow at hv
  have j_4 : ∀ (v2 : Int32) (v3 : Int32) (g : St), lpP (fun K4 (z : Int32 × Int32 × St) => J_X3_grow_4 w x1 post K4 z.1 z.2.1 z.2.2) (v2, v3, g) → ∀ (H : Heap) (locs : List Loc) (ls : Array Slot), uE D 52 gA (gO cs a) cs a F s g H locs → lv_has ls 4 [(0, .ref (a (2 + 10 * w))), (2, .int v2), (3, .int v3)] → W p l e rm_X3_grow s m args below meth c H locs 0 0 (MQ below (va_Qv post (uB D (uW 52 gA (gO cs a) cs a)) F) args s 0 0 F) (F0 m 4 ls []) := by
    intro  v2 v3 g  hv
    obtain ⟨nn, hv⟩ := hv
    induction nn generalizing v2 v3 g with
    | zero => exact False.elim hv
    | succ nn hK4 =>
      intro H locs ls hE hl
      have hv : J_X3_grow_4 w x1 post (itP _ nn) v2 v3 g := hv
      unfold J_X3_grow_4 at hv
      refine lv_iload_n hx hb dX3_grow_4 rfl (lv_at hl 2 rfl) ?_
      refine lv_bipush (v := 64) hx hb dX3_grow_5 (by decide) ?_
      refine lv_icmp_ge (tgt := 43) hx hb dX3_grow_7 (by decide) (fun c => ?_) (fun c => ?_)
      · have hv := hv.1 c
        exact G_vret hC hr hk hE hv dX3_grow_43
      · have hv := hv.2 c
        refine lv_iload_n hx hb dX3_grow_10 rfl (lv_at hl 1 rfl) ?_
        refine lv_ldc (v := 1103515245) hx hb hown (hts (.constant RX3 15 (1103515245)) (List.mem_of_getElem? (i := 1) rfl)) dX3_grow_11 ?_
        refine lv_imul hx hb dX3_grow_13 ?_
        refine lv_sipush (v := 12345) hx hb dX3_grow_14 (by decide) ?_
        refine lv_iadd hx hb dX3_grow_17 ?_
        refine lv_istore_n (lv' := [(2, .int ((v2 * 1103515245) + 12345)), (0, .ref (a (2 + 10 * w))), (3, .int v3)]) hx hb dX3_grow_18 rfl hl (by decide) rfl (fun ls hl => ?_)
        refine lv_aload_n hx hb dX3_grow_19 rfl (lv_at hl 1 rfl) ?_
        refine G_get (v := .ref (a (3 + 10 * w))) hC hE (fun _ h => List.mem_cons_of_mem _ (List.mem_append_left _ (List.mem_append_left _ (List.mem_append_right _ h)))) (f_land hw) rfl 0 (by decide) (hts (.fieldLink RX3 9 "SeedBattle$Land" "grounds" "[C") (List.mem_of_getElem? (i := 2) rfl)) rfl dX3_grow_20 ?_
        refine lv_iload_n hx hb dX3_grow_23 rfl (lv_at hl 2 rfl) ?_
        refine va_ldcS (tx := "ppppwwhx") (q := az 5) hx hb hown hC.2.2.2.sk0 dX3_grow_24 ?_
        refine lv_iload_n hx hb dX3_grow_26 rfl (lv_at hl 0 rfl) ?_
        refine lv_bipush (v := 16) hx hb dX3_grow_27 (by decide) ?_
        refine lv_iushr (v := (Int32.toUInt32 ((v2 * 1103515245) + 12345) >>> (Int32.toUInt32 16 &&& Int32.toUInt32 31)).toInt32) hx hb dX3_grow_29 rfl ?_
        refine lv_bipush (v := 8) hx hb dX3_grow_30 (by decide) ?_
        refine lv_irem hx hb dX3_grow_32 (by decide) ?_
        refine G_callVk (i := 0) (by decide) hC.1 hC.2.2.1 hC.2.2.2 hE.2.2 (c_J0_charAt_5068e l az (i := 0) (by decide) (((Int32.toUInt32 ((v2 * 1103515245) + 12345) >>> (Int32.toUInt32 16 &&& Int32.toUInt32 31)).toInt32) - ((Int32.toUInt32 ((v2 * 1103515245) + 12345) >>> (Int32.toUInt32 16 &&& Int32.toUInt32 31)).toInt32) / 8 * 8) _ hv) (cwV 1 hts gX3_grow_J0_charAt_5068e rfl rfl rfl (by decide +kernel) ⟨Nat.le_of_ble_eq_true rfl, Nat.le_of_ble_eq_true rfl⟩) rfl hl rfl (Nat.le_of_ble_eq_true rfl) dX3_grow_33 (Nat.zero_le _) (Nat.zero_le _) (fun r1 hv => ?_)
        refine G_cast hC hE (f_grounds hw) hv.1 dX3_grow_36 (fun H locs hE => ?_)
        have hv := hv.2
        refine lv_iinc (v := (v3 + 1)) (lv' := [(3, .int (v3 + 1)), (2, .int ((v2 * 1103515245) + 12345)), (0, .ref (a (2 + 10 * w)))]) hx hb dX3_grow_37 hl (k := 2) rfl rfl (by decide) rfl (fun ls hl => ?_)
        refine lv_goto (tgt := 4) hx hb dX3_grow_40 (by decide) ?_
        exact hK4 _ _ _  hv _ _ _ hE (lv_sub hl [2, 1, 0] rfl)
  refine lv_iload_n hx hb dX3_grow_0 rfl (lv_at hl 1 rfl) ?_
  refine lv_istore_n (lv' := [(2, .int x1), (0, .ref (a (2 + 10 * w))), (1, .int x1)]) hx hb dX3_grow_1 rfl hl (by decide) rfl (fun ls hl => ?_)
  refine lv_iconst (v := 0) hx hb dX3_grow_2 (by decide) ?_
  refine lv_istore_n (lv' := [(3, .int 0), (2, .int x1), (0, .ref (a (2 + 10 * w))), (1, .int x1)]) hx hb dX3_grow_3 rfl hl (by decide) rfl (fun ls hl => ?_)
  exact j_4  _ _ _  hv _ _ _ hE (lv_sub hl [2, 1, 0] rfl)
