def J_X6_requirePlayer_9 (x1 : Int32) (post : St → Prop) (px : String → St → Prop)   (g : St) : Prop := px "java/lang/IndexOutOfBoundsException" g
def V_X6_requirePlayer (x1 : Int32) (g : St) (post : St → Prop) (px : String → St → Prop) : Prop := ((x1 < 0 → J_X6_requirePlayer_9 x1 post px g) ∧ (¬ x1 < 0 → ((x1 < 4 → post g) ∧ (¬ x1 < 4 → J_X6_requirePlayer_9 x1 post px g))))
abbrev rm_X6_requirePlayer : Room := { frames := 6, cells := 1, slots := 6, locals := 90 }
set_option maxHeartbeats 4000000 in
set_option maxRecDepth 100000 in
theorem c_X6_requirePlayer (l : Launch) (hfl : l.flags = flags0) (D : va_G) (cs az a : Nat → Nat) (x1 : Int32) (g : St) (post : St → Prop) (px : String → St → Prop) (hv : V_X6_requirePlayer x1 g post px) : uTv l yX6_requirePlayer wsX6_requirePlayer rm_X6_requirePlayer D cs az (gW cs a) [.int x1] g 1 6 post px := by
  refine u_ofTv (cc := cX6_requirePlayer) (maxL := 1) (by decide) rfl (Nat.le_of_ble_eq_true rfl) ?_
  intro p e s m args below meth c F ls hC hx0 hr hk hl hE
  have hx := hC.1.1; have hb := hC.1.2.1; have hml := hC.1.2.2.1; have hts := hC.1.2.2.2.2
  have hown : s.vm.findClass RX6 = some m.cls := hC.1.2.2.2.1
  have hl : lv_has ls 1 [(0, .int x1)] := hl
  unfold V_X6_requirePlayer at hv
  have j_9 : ∀  (g : St), J_X6_requirePlayer_9 x1 post px g → ∀ (H : Heap) (locs : List Loc) (ls : Array Slot), uE D 52 gA (gO cs a) cs a F s g H locs → lv_has ls 1 [] → W p l e rm_X6_requirePlayer s m args below meth c H locs 0 0 (vx_MQ below (va_Qv post (uB D (uW 52 gA (gO cs a) cs a)) F) (uX9 D (uW 52 gA (gO cs a) cs a) px F) args s 1 6 F) (F0 m 9 ls []) := by
    intro  g  hv
    intro H locs ls hE hl
    unfold J_X6_requirePlayer_9 at hv
    exact T_throwW (px := px) hfl hC hx0 hk hE hl (cls := "java/lang/IndexOutOfBoundsException") (text := "no such player") (by decide +kernel) (hts (.classLink RX6 171 "java/lang/IndexOutOfBoundsException") (List.mem_of_getElem? (i := 1) rfl)) (hts (.initialized "java/lang/IndexOutOfBoundsException") (List.mem_of_getElem? (i := 2) rfl)) (by decide +kernel) (fun _ h => List.mem_cons_of_mem _ (List.mem_append_right _ h)) (by decide +kernel) (by decide +kernel) dX6_requirePlayer_9 dX6_requirePlayer_12 dX6_requirePlayer_13 dX6_requirePlayer_16 dX6_requirePlayer_19 (Nat.le_of_ble_eq_true rfl) (Nat.le_of_ble_eq_true rfl) (Nat.le_of_ble_eq_true rfl) (Nat.le_of_ble_eq_true rfl) hv (Nat.le_of_ble_eq_true rfl) (Nat.le_of_ble_eq_true rfl)
  refine lv_iload_n hx hb dX6_requirePlayer_0 rfl (lv_at hl 0 rfl) ?_
  refine lv_if_lt (tgt := 9) hx hb dX6_requirePlayer_1 (by decide) (fun c => ?_) (fun c => ?_)
  · have hv := hv.1 c
    exact j_9  _  hv _ _ _ hE (lv_sub hl [] rfl)
  · have hv := hv.2 c
    refine lv_iload_n hx hb dX6_requirePlayer_4 rfl (lv_at hl 0 rfl) ?_
    refine lv_iconst (v := 4) hx hb dX6_requirePlayer_5 (by decide) ?_
    refine lv_icmp_lt (tgt := 20) hx hb dX6_requirePlayer_6 (by decide) (fun c => ?_) (fun c => ?_)
    · have hv := hv.1 c
      exact T_vret hC hr hk hE hv dX6_requirePlayer_20 (Nat.le_of_ble_eq_true rfl) (Nat.le_of_ble_eq_true rfl)
    · have hv := hv.2 c
      exact j_9  _  hv _ _ _ hE (lv_sub hl [] rfl)
def V_X6_requireCell (x1 : Int32) (g : St) (post : St → Prop) (px : String → St → Prop) : Prop := V_X6_isCell x1 (fun r1 => ((¬ r1 = 0 → post g) ∧ (r1 = 0 → px "java/lang/IndexOutOfBoundsException" g)))
abbrev rm_X6_requireCell : Room := { frames := 6, cells := 1, slots := 6, locals := 90 }
set_option maxHeartbeats 4000000 in
set_option maxRecDepth 100000 in
theorem c_X6_requireCell (l : Launch) (hfl : l.flags = flags0) (D : va_G) (cs az a : Nat → Nat) (x1 : Int32) (g : St) (post : St → Prop) (px : String → St → Prop) (hv : V_X6_requireCell x1 g post px) : uTv l yX6_requireCell wsX6_requireCell rm_X6_requireCell D cs az (gW cs a) [.int x1] g 1 6 post px := by
  refine u_ofTv (cc := cX6_requireCell) (maxL := 1) (by decide) rfl (Nat.le_of_ble_eq_true rfl) ?_
  intro p e s m args below meth c F ls hC hx0 hr hk hl hE
  have hx := hC.1.1; have hb := hC.1.2.1; have hml := hC.1.2.2.1; have hts := hC.1.2.2.2.2
  have hown : s.vm.findClass RX6 = some m.cls := hC.1.2.2.2.1
  have hl : lv_has ls 1 [(0, .int x1)] := hl
  unfold V_X6_requireCell at hv
  refine lv_iload_n hx hb dX6_requireCell_0 rfl (lv_at hl 0 rfl) ?_
  refine G_callSs hC.1 hC.2.2.2.2.1 (c_X6_isCell l x1 _ hv) (va_cwS 1 hts gX6_requireCell_X6_isCell rfl rfl rfl (by decide +kernel) ⟨Nat.le_of_ble_eq_true rfl, Nat.le_of_ble_eq_true rfl⟩) rfl hl rfl (Nat.le_of_ble_eq_true rfl) dX6_requireCell_1 (Nat.le_of_ble_eq_true rfl) (Nat.le_of_ble_eq_true rfl) (fun r1 hv => ?_)
  refine lv_if_ne (tgt := 18) hx hb dX6_requireCell_4 (by decide) (fun c => ?_) (fun c => ?_)
  · have hv := hv.1 c
    exact T_vret hC hr hk hE hv dX6_requireCell_18 (Nat.le_of_ble_eq_true rfl) (Nat.le_of_ble_eq_true rfl)
  · have hv := hv.2 c
    exact T_throwW (px := px) hfl hC hx0 hk hE hl (cls := "java/lang/IndexOutOfBoundsException") (text := "no such cell") (by decide +kernel) (hts (.classLink RX6 171 "java/lang/IndexOutOfBoundsException") (List.mem_of_getElem? (i := 1) rfl)) (hts (.initialized "java/lang/IndexOutOfBoundsException") (List.mem_of_getElem? (i := 2) rfl)) (by decide +kernel) (fun _ h => List.mem_cons_of_mem _ (List.mem_append_right _ h)) (by decide +kernel) (by decide +kernel) dX6_requireCell_7 dX6_requireCell_10 dX6_requireCell_11 dX6_requireCell_14 dX6_requireCell_17 (Nat.le_of_ble_eq_true rfl) (Nat.le_of_ble_eq_true rfl) (Nat.le_of_ble_eq_true rfl) (Nat.le_of_ble_eq_true rfl) hv (Nat.le_of_ble_eq_true rfl) (Nat.le_of_ble_eq_true rfl)
def V_X6_requireUnit (x1 : Int32) (g : St) (post : St → Prop) (px : String → St → Prop) : Prop := V_X5_has 0 x1 g (fun r2 g1 => ((¬ r2 = 0 → post g1) ∧ (r2 = 0 → px "java/lang/IndexOutOfBoundsException" g1)))
abbrev rm_X6_requireUnit : Room := { frames := 6, cells := 1, slots := 6, locals := 90 }
set_option maxHeartbeats 4000000 in
set_option maxRecDepth 100000 in
theorem c_X6_requireUnit (l : Launch) (hfl : l.flags = flags0) (D : va_G) (cs az a : Nat → Nat) (x1 : Int32) (g : St) (post : St → Prop) (px : String → St → Prop) (hv : V_X6_requireUnit x1 g post px) : uTv l yX6_requireUnit wsX6_requireUnit rm_X6_requireUnit D cs az (gW cs a) [.ref (a 0), .int x1] g 1 6 post px := by
  refine u_ofTv (cc := cX6_requireUnit) (maxL := 2) (by decide) rfl (Nat.le_of_ble_eq_true rfl) ?_
  intro p e s m args below meth c F ls hC hx0 hr hk hl hE
  have hx := hC.1.1; have hb := hC.1.2.1; have hml := hC.1.2.2.1; have hts := hC.1.2.2.2.2
  have hown : s.vm.findClass RX6 = some m.cls := hC.1.2.2.2.1
  have hl : lv_has ls 2 [(0, .ref (a 0)), (1, .int x1)] := hl
  unfold V_X6_requireUnit at hv
  refine lv_aload_n hx hb dX6_requireUnit_0 rfl (lv_at hl 0 rfl) ?_
  refine G_get (v := .ref (a 1)) hC hE (fun _ h => List.mem_cons_of_mem _ (List.mem_append_left _ (List.mem_append_left _ (List.mem_append_left _ (List.mem_append_right _ h))))) f_game rfl 0 (by decide) (hts (.fieldLink RX6 10 "SeedBattle" "field" "LSeedBattle$Field;") (List.mem_of_getElem? (i := 3) rfl)) rfl dX6_requireUnit_1 ?_
  refine G_getN (v := .ref (a 4)) hC hE (fun _ h => List.mem_cons_of_mem _ (List.mem_append_left _ (List.mem_append_left _ (List.mem_append_right _ h)))) (f_field (w := 0) (by decide)) rfl 1 (by decide) (List.mem_of_getElem? (i := 4) rfl) rfl dX6_requireUnit_4 ?_
  refine lv_iload_n hx hb dX6_requireUnit_7 rfl (lv_at hl 1 rfl) ?_
  refine T_callVi hC (c_X5_has l D cs az a (w := 0) (by decide) x1 g _ hv) (cwV 1 hts gX6_requireUnit_X5_has rfl rfl rfl (by decide +kernel) ⟨Nat.le_of_ble_eq_true rfl, Nat.le_of_ble_eq_true rfl⟩) (f_units (w := 0) (by decide)) rfl rfl hl rfl (Nat.le_of_ble_eq_true rfl) dX6_requireUnit_8 hE (Nat.le_of_ble_eq_true rfl) (Nat.le_of_ble_eq_true rfl) (fun r2 g1 H locs hv hE => ?_)
  refine lv_if_ne (tgt := 25) hx hb dX6_requireUnit_11 (by decide) (fun c => ?_) (fun c => ?_)
  · have hv := hv.1 c
    exact T_vret hC hr hk hE hv dX6_requireUnit_25 (Nat.le_of_ble_eq_true rfl) (Nat.le_of_ble_eq_true rfl)
  · have hv := hv.2 c
    exact T_throwW (px := px) hfl hC hx0 hk hE hl (cls := "java/lang/IndexOutOfBoundsException") (text := "no such unit") (by decide +kernel) (hts (.classLink RX6 171 "java/lang/IndexOutOfBoundsException") (List.mem_of_getElem? (i := 1) rfl)) (hts (.initialized "java/lang/IndexOutOfBoundsException") (List.mem_of_getElem? (i := 2) rfl)) (by decide +kernel) (fun _ h => List.mem_cons_of_mem _ (List.mem_append_right _ h)) (by decide +kernel) (by decide +kernel) dX6_requireUnit_14 dX6_requireUnit_17 dX6_requireUnit_18 dX6_requireUnit_21 dX6_requireUnit_24 (Nat.le_of_ble_eq_true rfl) (Nat.le_of_ble_eq_true rfl) (Nat.le_of_ble_eq_true rfl) (Nat.le_of_ble_eq_true rfl) hv (Nat.le_of_ble_eq_true rfl) (Nat.le_of_ble_eq_true rfl)
def V_X6_requireSave  (g : St) (post : St → Prop) (px : String → St → Prop) : Prop := ((¬ (g.2 2) = 0 → post g) ∧ ((g.2 2) = 0 → px "java/util/NoSuchElementException" g))
abbrev rm_X6_requireSave : Room := { frames := 6, cells := 1, slots := 6, locals := 90 }
set_option maxHeartbeats 4000000 in
set_option maxRecDepth 100000 in
theorem c_X6_requireSave (l : Launch) (hfl : l.flags = flags0) (D : va_G) (cs az a : Nat → Nat)  (g : St) (post : St → Prop) (px : String → St → Prop) (hv : V_X6_requireSave  g post px) : uTv l yX6_requireSave wsX6_requireSave rm_X6_requireSave D cs az (gW cs a) [.ref (a 0)] g 1 6 post px := by
  refine u_ofTv (cc := cX6_requireSave) (maxL := 1) (by decide) rfl (Nat.le_of_ble_eq_true rfl) ?_
  intro p e s m args below meth c F ls hC hx0 hr hk hl hE
  have hx := hC.1.1; have hb := hC.1.2.1; have hml := hC.1.2.2.1; have hts := hC.1.2.2.2.2
  have hown : s.vm.findClass RX6 = some m.cls := hC.1.2.2.2.1
  have hl : lv_has ls 1 [(0, .ref (a 0))] := hl
  unfold V_X6_requireSave at hv
  refine lv_aload_n hx hb dX6_requireSave_0 rfl (lv_at hl 0 rfl) ?_
  refine G_get (v := .int (g.2 2)) hC hE (fun _ h => List.mem_cons_of_mem _ (List.mem_append_left _ (List.mem_append_right _ h))) f_game rfl 9 (by decide) (hts (.fieldLink RX6 213 "SeedBattle" "saved" "Z") (List.mem_of_getElem? (i := 3) rfl)) rfl dX6_requireSave_1 ?_
  refine lv_if_ne (tgt := 18) hx hb dX6_requireSave_4 (by decide) (fun c => ?_) (fun c => ?_)
  · have hv := hv.1 c
    exact T_vret hC hr hk hE hv dX6_requireSave_18 (Nat.le_of_ble_eq_true rfl) (Nat.le_of_ble_eq_true rfl)
  · have hv := hv.2 c
    exact T_throwWN (px := px) hfl hC hx0 hk hE hl (cls := "java/util/NoSuchElementException") (text := "there is no save") (by decide +kernel) (hts (.classLink RX6 192 "java/util/NoSuchElementException") (List.mem_of_getElem? (i := 1) rfl)) (hts (.initialized "java/util/NoSuchElementException") (List.mem_of_getElem? (i := 2) rfl)) (by decide +kernel) (fun _ h => List.mem_cons_of_mem _ (List.mem_append_right _ h)) (by decide +kernel) (by decide +kernel) dX6_requireSave_7 dX6_requireSave_10 dX6_requireSave_11 dX6_requireSave_14 dX6_requireSave_17 (Nat.le_of_ble_eq_true rfl) (Nat.le_of_ble_eq_true rfl) (Nat.le_of_ble_eq_true rfl) (Nat.le_of_ble_eq_true rfl) hv (Nat.le_of_ble_eq_true rfl) (Nat.le_of_ble_eq_true rfl)
def V_X6_hasTreaty (x1 : Int32) (x2 : Int32) (g : St) (post : Int32 → St → Prop) : Prop := vp_in x1 4 ∧ ((((((g.1 26 (Int32.toNatClampNeg x1)) >>> (x2 &&& 31)) &&& 1) = 0 → post 0 g) ∧ (¬ (((g.1 26 (Int32.toNatClampNeg x1)) >>> (x2 &&& 31)) &&& 1) = 0 → post 1 g)))
abbrev rm_X6_hasTreaty : Room := { frames := 0, cells := 0, slots := 0, locals := 0 }
set_option maxHeartbeats 4000000 in
set_option maxRecDepth 100000 in
theorem c_X6_hasTreaty (l : Launch) (D : va_G) (cs az a : Nat → Nat) (x1 : Int32) (x2 : Int32) (g : St) (post : Int32 → St → Prop) (hv : V_X6_hasTreaty x1 x2 g post) : uMi l yX6_hasTreaty wsX6_hasTreaty rm_X6_hasTreaty D cs az (gW cs a) [.ref (a 0), .int x1, .int x2] g post := by
  refine u_ofI (cc := cX6_hasTreaty) (maxL := 3) (by decide) rfl (Nat.le_of_ble_eq_true rfl) ?_
  intro p e s m args below meth c F ls hC hr hk hl hE
  have hx := hC.1.1; have hb := hC.1.2.1; have hml := hC.1.2.2.1; have hts := hC.1.2.2.2.2
  have hown : s.vm.findClass RX6 = some m.cls := hC.1.2.2.2.1
  have hl : lv_has ls 3 [(0, .ref (a 0)), (1, .int x1), (2, .int x2)] := hl
  unfold V_X6_hasTreaty at hv
  refine lv_aload_n hx hb dX6_hasTreaty_0 rfl (lv_at hl 0 rfl) ?_
  refine G_get (v := .ref (a 26)) hC hE (fun _ h => List.mem_cons_of_mem _ (List.mem_append_left _ (List.mem_append_right _ h))) f_game rfl 5 (by decide) (hts (.fieldLink RX6 38 "SeedBattle" "treaties" "[I") (List.mem_of_getElem? (i := 1) rfl)) rfl dX6_hasTreaty_1 ?_
  refine lv_iload_n hx hb dX6_hasTreaty_4 rfl (lv_at hl 1 rfl) ?_
  refine G_iald hC hE f_treaties hv.1 dX6_hasTreaty_5 ?_
  have hv := hv.2
  refine lv_iload_n hx hb dX6_hasTreaty_6 rfl (lv_at hl 2 rfl) ?_
  refine lv_ishr hx hb dX6_hasTreaty_7 ?_
  refine lv_iconst (v := 1) hx hb dX6_hasTreaty_8 (by decide) ?_
  refine lv_iand hx hb dX6_hasTreaty_9 ?_
  refine lv_if_eq (tgt := 17) hx hb dX6_hasTreaty_10 (by decide) (fun c => ?_) (fun c => ?_)
  · have hv := hv.1 c
    refine lv_iconst (v := 0) hx hb dX6_hasTreaty_17 (by decide) ?_
    exact G_zret hC hr hk hE rfl hv dX6_hasTreaty_18
  · have hv := hv.2 c
    refine lv_iconst (v := 1) hx hb dX6_hasTreaty_13 (by decide) ?_
    refine lv_goto (tgt := 18) hx hb dX6_hasTreaty_14 (by decide) ?_
    exact G_zret hC hr hk hE rfl hv dX6_hasTreaty_18
def J_X6_watch_83 (x1 : Int32) (post : St → Prop) (K13 : (Int32 × Int32 × Int32 × St) → Prop) (v1 : Int32) (v3 : Int32) (v4 : Int32) (g : St) : Prop := K13 (v1, v3, (v4 + 1), g)
def J_X6_watch_13 (x1 : Int32) (post : St → Prop) (K13 : (Int32 × Int32 × Int32 × St) → Prop) (v1 : Int32) (v3 : Int32) (v4 : Int32) (g : St) : Prop := (((g.2 3) ≤ v4 → vp_in v1 4 ∧ (post (sA g 27 (upd (g.1 27) (Int32.toNatClampNeg v1) v3)))) ∧ (¬ (g.2 3) ≤ v4 → V_X5_place 0 v4 g (fun r2 g1 => ((r2 = (-1) → J_X6_watch_83 x1 post K13 v1 v3 v4 g1) ∧ (¬ r2 = (-1) → V_X5_owner 0 v4 g1 (fun r4 g3 => ((r4 = v1 → J_X6_watch_83 x1 post K13 v1 v3 v4 g3) ∧ (¬ r4 = v1 → V_X1_playerSpots 0 v1 r2 g3 (fun r6 g5 => ((r6 = 0 → J_X6_watch_83 x1 post K13 v1 v3 v4 g5) ∧ (¬ r6 = 0 → vp_in v1 4 ∧ (V_X2_add (Int32.toNatClampNeg v1) (g5.2 1) r2 v4 g5 (fun g8 => J_X6_watch_83 x1 post K13 v1 (v3 ||| (1 <<< (v4 &&& 31))) v4 g8)))))))))))))
def V_X6_watch (x1 : Int32) (g : St) (post : St → Prop) : Prop := lpP (fun K13 (z : Int32 × Int32 × Int32 × St) => J_X6_watch_13 x1 post K13 z.1 z.2.1 z.2.2.1 z.2.2.2) (x1, 0, 0, g)
abbrev rm_X6_watch : Room := { frames := 5, cells := 0, slots := 0, locals := 121 }
set_option maxHeartbeats 4000000 in
set_option maxRecDepth 100000 in
theorem c_X6_watch (l : Launch) (D : va_G) (cs az a : Nat → Nat) (x1 : Int32) (g : St) (post : St → Prop) (hv : V_X6_watch x1 g post) : uMv l yX6_watch wsX6_watch rm_X6_watch D cs az (gW cs a) [.ref (a 0), .int x1] g post := by
  refine u_ofV (cc := cX6_watch) (maxL := 6) (by decide) rfl (Nat.le_of_ble_eq_true rfl) ?_
  intro p e s m args below meth c F ls hC hr hk hl hE
  have hx := hC.1.1; have hb := hC.1.2.1; have hml := hC.1.2.2.1; have hts := hC.1.2.2.2.2
  have hown : s.vm.findClass RX6 = some m.cls := hC.1.2.2.2.1
  have hl : lv_has ls 6 [(0, .ref (a 0)), (1, .int x1)] := hl
  unfold V_X6_watch at hv
  have j_83 : ∀ (K13 : (Int32 × Int32 × Int32 × St) → Prop), (∀ (v1 : Int32) (v3 : Int32) (v4 : Int32) (g : St), K13 (v1, v3, v4, g) → ∀ (H : Heap) (locs : List Loc) (ls : Array Slot), uE D 52 gA (gO cs a) cs a F s g H locs → lv_has ls 6 [(0, .ref (a 0)), (1, .int v1), (2, .ref (a 4)), (3, .int v3), (4, .int v4)] → W p l e rm_X6_watch s m args below meth c H locs 0 0 (MQ below (va_Qv post (uB D (uW 52 gA (gO cs a) cs a)) F) args s 0 0 F) (F0 m 13 ls [])) → ∀ (v1 : Int32) (v3 : Int32) (v4 : Int32) (g : St), J_X6_watch_83 x1 post K13 v1 v3 v4 g → ∀ (H : Heap) (locs : List Loc) (ls : Array Slot), uE D 52 gA (gO cs a) cs a F s g H locs → lv_has ls 6 [(0, .ref (a 0)), (1, .int v1), (2, .ref (a 4)), (3, .int v3), (4, .int v4)] → W p l e rm_X6_watch s m args below meth c H locs 0 0 (MQ below (va_Qv post (uB D (uW 52 gA (gO cs a) cs a)) F) args s 0 0 F) (F0 m 83 ls []) := by
    intro K13 hK13 v1 v3 v4 g  hv
    intro H locs ls hE hl
    unfold J_X6_watch_83 at hv
    refine lv_iinc (v := (v4 + 1)) (lv' := [(4, .int (v4 + 1)), (0, .ref (a 0)), (1, .int v1), (2, .ref (a 4)), (3, .int v3)]) hx hb dX6_watch_83 hl (k := 4) rfl rfl (by decide) rfl (fun ls hl => ?_)
    refine lv_goto (tgt := 13) hx hb dX6_watch_86 (by decide) ?_
    exact hK13 _ _ _ _  hv _ _ _ hE (lv_sub hl [1, 2, 3, 4, 0] rfl)
  have j_13 : ∀ (v1 : Int32) (v3 : Int32) (v4 : Int32) (g : St), lpP (fun K13 (z : Int32 × Int32 × Int32 × St) => J_X6_watch_13 x1 post K13 z.1 z.2.1 z.2.2.1 z.2.2.2) (v1, v3, v4, g) → ∀ (H : Heap) (locs : List Loc) (ls : Array Slot), uE D 52 gA (gO cs a) cs a F s g H locs → lv_has ls 6 [(0, .ref (a 0)), (1, .int v1), (2, .ref (a 4)), (3, .int v3), (4, .int v4)] → W p l e rm_X6_watch s m args below meth c H locs 0 0 (MQ below (va_Qv post (uB D (uW 52 gA (gO cs a) cs a)) F) args s 0 0 F) (F0 m 13 ls []) := by
    intro  v1 v3 v4 g  hv
    obtain ⟨nn, hv⟩ := hv
    induction nn generalizing v1 v3 v4 g with
    | zero => exact False.elim hv
    | succ nn hK13 =>
      intro H locs ls hE hl
      have hv : J_X6_watch_13 x1 post (itP _ nn) v1 v3 v4 g := hv
      unfold J_X6_watch_13 at hv
      refine lv_iload hx hb dX6_watch_13 (lv_at hl 4 rfl) ?_
      refine lv_aload_n hx hb dX6_watch_15 rfl (lv_at hl 2 rfl) ?_
      refine G_getN (v := .int (g.2 3)) hC hE (fun _ h => List.mem_cons_of_mem _ (List.mem_append_left _ (List.mem_append_left _ (List.mem_append_left _ (List.mem_append_left _ (List.mem_append_right _ h)))))) (f_units (w := 0) (by decide)) rfl 4 (by decide) (List.mem_of_getElem? (i := 5) rfl) rfl dX6_watch_16 ?_
      refine lv_icmp_ge (tgt := 89) hx hb dX6_watch_19 (by decide) (fun c => ?_) (fun c => ?_)
      · have hv := hv.1 c
        refine lv_aload_n hx hb dX6_watch_89 rfl (lv_at hl 0 rfl) ?_
        refine G_get (v := .ref (a 27)) hC hE (fun _ h => List.mem_cons_of_mem _ (List.mem_append_left _ (List.mem_append_left _ (List.mem_append_left _ (List.mem_append_left _ (List.mem_append_left _ (List.mem_append_left _ (List.mem_append_right _ h)))))))) f_game rfl 6 (by decide) (hts (.fieldLink RX6 42 "SeedBattle" "ownSights" "[I") (List.mem_of_getElem? (i := 4) rfl)) rfl dX6_watch_90 ?_
        refine lv_iload_n hx hb dX6_watch_93 rfl (lv_at hl 1 rfl) ?_
        refine lv_iload_n hx hb dX6_watch_94 rfl (lv_at hl 3 rfl) ?_
        refine G_iast hC hE f_sights hv.1 dX6_watch_95 (fun H locs hE => ?_)
        have hv := hv.2
        exact G_vret hC hr hk hE hv dX6_watch_96
      · have hv := hv.2 c
        refine lv_aload_n hx hb dX6_watch_22 rfl (lv_at hl 2 rfl) ?_
        refine lv_iload hx hb dX6_watch_23 (lv_at hl 4 rfl) ?_
        refine G_callVi hC (c_X5_place l D cs az a (w := 0) (by decide) v4 g _ hv) (cwV 1 hts gX6_watch_X5_place rfl rfl rfl (by decide +kernel) ⟨Nat.le_of_ble_eq_true rfl, Nat.le_of_ble_eq_true rfl⟩) (f_units (w := 0) (by decide)) rfl rfl hl rfl (Nat.le_of_ble_eq_true rfl) dX6_watch_25 hE (fun r2 g1 H locs hv hE => ?_)
        refine lv_istore (lv' := [(5, .int r2), (0, .ref (a 0)), (1, .int v1), (2, .ref (a 4)), (3, .int v3), (4, .int v4)]) hx hb dX6_watch_28 hl (by decide) rfl (fun ls hl => ?_)
        refine lv_iload hx hb dX6_watch_30 (lv_at hl 0 rfl) ?_
        refine lv_iconst (v := (-1)) hx hb dX6_watch_32 (by decide) ?_
        refine lv_icmp_eq (tgt := 83) hx hb dX6_watch_33 (by decide) (fun c => ?_) (fun c => ?_)
        · have hv := hv.1 c
          exact j_83 _ hK13 _ _ _ _  hv _ _ _ hE (lv_sub hl [1, 2, 3, 4, 5] rfl)
        · have hv := hv.2 c
          refine lv_aload_n hx hb dX6_watch_36 rfl (lv_at hl 3 rfl) ?_
          refine lv_iload hx hb dX6_watch_37 (lv_at hl 5 rfl) ?_
          refine G_callVi hC (c_X5_owner l D cs az a (w := 0) (by decide) v4 g1 _ hv) (cwV 1 hts gX6_watch_X5_owner rfl rfl rfl (by decide +kernel) ⟨Nat.le_of_ble_eq_true rfl, Nat.le_of_ble_eq_true rfl⟩) (f_units (w := 0) (by decide)) rfl rfl hl rfl (Nat.le_of_ble_eq_true rfl) dX6_watch_39 hE (fun r4 g3 H locs hv hE => ?_)
          refine lv_iload_n hx hb dX6_watch_42 rfl (lv_at hl 2 rfl) ?_
          refine lv_icmp_eq (tgt := 83) hx hb dX6_watch_43 (by decide) (fun c => ?_) (fun c => ?_)
          · have hv := hv.1 c
            exact j_83 _ hK13 _ _ _ _  hv _ _ _ hE (lv_sub hl [1, 2, 3, 4, 5] rfl)
          · have hv := hv.2 c
            refine lv_aload_n hx hb dX6_watch_46 rfl (lv_at hl 1 rfl) ?_
            refine G_get (v := .ref (a 1)) hC hE (fun _ h => List.mem_cons_of_mem _ (List.mem_append_left _ (List.mem_append_left _ (List.mem_append_left _ (List.mem_append_left _ (List.mem_append_left _ (List.mem_append_left _ (List.mem_append_right _ h)))))))) f_game rfl 0 (by decide) (hts (.fieldLink RX6 10 "SeedBattle" "field" "LSeedBattle$Field;") (List.mem_of_getElem? (i := 1) rfl)) rfl dX6_watch_47 ?_
            refine lv_iload_n hx hb dX6_watch_50 rfl (lv_at hl 2 rfl) ?_
            refine lv_iload hx hb dX6_watch_51 (lv_at hl 0 rfl) ?_
            refine G_callVi hC (c_X1_playerSpots l D cs az a (w := 0) (by decide) v1 r2 g3 _ hv) (cwV 2 hts gX6_watch_X1_playerSpots rfl rfl rfl (by decide +kernel) ⟨Nat.le_of_ble_eq_true rfl, Nat.le_of_ble_eq_true rfl⟩) (f_field (w := 0) (by decide)) rfl rfl hl rfl (Nat.le_of_ble_eq_true rfl) dX6_watch_53 hE (fun r6 g5 H locs hv hE => ?_)
            refine lv_if_eq (tgt := 83) hx hb dX6_watch_56 (by decide) (fun c => ?_) (fun c => ?_)
            · have hv := hv.1 c
              exact j_83 _ hK13 _ _ _ _  hv _ _ _ hE (lv_sub hl [1, 2, 3, 4, 5] rfl)
            · have hv := hv.2 c
              refine lv_iload_n hx hb dX6_watch_59 rfl (lv_at hl 4 rfl) ?_
              refine lv_iconst (v := 1) hx hb dX6_watch_60 (by decide) ?_
              refine lv_iload hx hb dX6_watch_61 (lv_at hl 5 rfl) ?_
              refine lv_ishl hx hb dX6_watch_63 ?_
              refine lv_ior hx hb dX6_watch_64 ?_
              refine lv_istore_n (lv' := [(3, .int (v3 ||| (1 <<< (v4 &&& 31)))), (5, .int r2), (0, .ref (a 0)), (1, .int v1), (2, .ref (a 4)), (4, .int v4)]) hx hb dX6_watch_65 rfl hl (by decide) rfl (fun ls hl => ?_)
              refine lv_aload_n hx hb dX6_watch_66 rfl (lv_at hl 2 rfl) ?_
              refine G_get (v := .ref (a 24)) hC hE (fun _ h => List.mem_cons_of_mem _ (List.mem_append_left _ (List.mem_append_left _ (List.mem_append_left _ (List.mem_append_left _ (List.mem_append_left _ (List.mem_append_left _ (List.mem_append_right _ h)))))))) f_game rfl 3 (by decide) (hts (.fieldLink RX6 28 "SeedBattle" "indexes" "[LSeedBattle$Index;") (List.mem_of_getElem? (i := 2) rfl)) rfl dX6_watch_67 ?_
              refine lv_iload_n hx hb dX6_watch_70 rfl (lv_at hl 3 rfl) ?_
              have hq7 := vp_lt hv.1
              refine G_aald hC hE f_idxs (t := 3) rfl hv.1 dX6_watch_71 ?_
              have hv := hv.2
              refine lv_aload_n hx hb dX6_watch_72 rfl (lv_at hl 2 rfl) ?_
              refine G_get (v := .int (g5.2 1)) hC hE (fun _ h => List.mem_cons_of_mem _ (List.mem_append_left _ (List.mem_append_left _ (List.mem_append_left _ (List.mem_append_left _ (List.mem_append_left _ (List.mem_append_left _ (List.mem_append_right _ h)))))))) f_game rfl 8 (by decide) (hts (.fieldLink RX6 108 "SeedBattle" "turnsDone" "I") (List.mem_of_getElem? (i := 3) rfl)) rfl dX6_watch_73 ?_
              refine lv_iload hx hb dX6_watch_76 (lv_at hl 1 rfl) ?_
              refine lv_iload hx hb dX6_watch_78 (lv_at hl 5 rfl) ?_
              refine G_callVv hC (c_X2_add l D cs az a (ix := (Int32.toNatClampNeg v1)) hq7 (g5.2 1) r2 v4 g5 _ hv) (cwV 3 hts gX6_watch_X2_add rfl rfl rfl (by decide +kernel) ⟨Nat.le_of_ble_eq_true rfl, Nat.le_of_ble_eq_true rfl⟩) (f_index hq7) rfl rfl hl rfl (Nat.le_of_ble_eq_true rfl) dX6_watch_80 hE (fun g8 H locs hv hE => ?_)
              exact j_83 _ hK13 _ _ _ _  hv _ _ _ hE (lv_sub hl [2, 3, 4, 0, 5] rfl)
  refine lv_aload_n hx hb dX6_watch_0 rfl (lv_at hl 0 rfl) ?_
  refine G_get (v := .ref (a 1)) hC hE (fun _ h => List.mem_cons_of_mem _ (List.mem_append_left _ (List.mem_append_left _ (List.mem_append_left _ (List.mem_append_left _ (List.mem_append_left _ (List.mem_append_left _ (List.mem_append_right _ h)))))))) f_game rfl 0 (by decide) (hts (.fieldLink RX6 10 "SeedBattle" "field" "LSeedBattle$Field;") (List.mem_of_getElem? (i := 1) rfl)) rfl dX6_watch_1 ?_
  refine G_getN (v := .ref (a 4)) hC hE (fun _ h => List.mem_cons_of_mem _ (List.mem_append_left _ (List.mem_append_left _ (List.mem_append_left _ (List.mem_append_left _ (List.mem_append_left _ (List.mem_append_right _ h))))))) (f_field (w := 0) (by decide)) rfl 1 (by decide) (List.mem_of_getElem? (i := 4) rfl) rfl dX6_watch_4 ?_
  refine lv_astore_n (lv' := [(2, .ref (a 4)), (0, .ref (a 0)), (1, .int x1)]) hx hb dX6_watch_7 rfl hl (by decide) rfl (fun ls hl => ?_)
  refine lv_iconst (v := 0) hx hb dX6_watch_8 (by decide) ?_
  refine lv_istore_n (lv' := [(3, .int 0), (2, .ref (a 4)), (0, .ref (a 0)), (1, .int x1)]) hx hb dX6_watch_9 rfl hl (by decide) rfl (fun ls hl => ?_)
  refine lv_iconst (v := 0) hx hb dX6_watch_10 (by decide) ?_
  refine lv_istore (lv' := [(4, .int 0), (3, .int 0), (2, .ref (a 4)), (0, .ref (a 0)), (1, .int x1)]) hx hb dX6_watch_11 hl (by decide) rfl (fun ls hl => ?_)
  exact j_13  _ _ _ _  hv _ _ _ hE (lv_sub hl [3, 4, 2, 1, 0] rfl)
def J_X6_hear_95 (x1 : Int32) (x2 : Int32) (post : St → Prop) (K11 : (Int32 × Int32 × Int32 × St) → Prop) (v1 : Int32) (v2 : Int32) (v4 : Int32) (g : St) : Prop := K11 (v1, v2, (v4 + 1), g)
def J_X6_hear_39 (x1 : Int32) (x2 : Int32) (post : St → Prop) (K11 : (Int32 × Int32 × Int32 × St) → Prop) (v1 : Int32) (v2 : Int32) (v4 : Int32) (t0 : Int32) (g : St) : Prop := ((t0 = 0 → J_X6_hear_95 x1 x2 post K11 v1 v2 v4 g) ∧ (¬ t0 = 0 → V_X5_owner 0 v4 g (fun r2 g1 => ((r2 = v1 → J_X6_hear_95 x1 x2 post K11 v1 v2 v4 g1) ∧ (¬ r2 = v1 → vp_in v1 4 ∧ (V_X2_has (Int32.toNatClampNeg v1) (g1.2 1) v4 g1 (fun r5 g4 => ((¬ r5 = 0 → J_X6_hear_95 x1 x2 post K11 v1 v2 v4 g4) ∧ (r5 = 0 → vp_in v1 4 ∧ (V_X5_place 0 v4 g4 (fun r8 g7 => V_X2_add (Int32.toNatClampNeg v1) (g4.2 1) r8 v4 g7 (fun g9 => J_X6_hear_95 x1 x2 post K11 v1 v2 v4 g9))))))))))))
def J_X6_hear_11 (x1 : Int32) (x2 : Int32) (post : St → Prop) (K11 : (Int32 × Int32 × Int32 × St) → Prop) (v1 : Int32) (v2 : Int32) (v4 : Int32) (g : St) : Prop := (((g.2 3) ≤ v4 → post g) ∧ (¬ (g.2 3) ≤ v4 → vp_in v2 4 ∧ ((((((g.1 27 (Int32.toNatClampNeg v2)) >>> (v4 &&& 31)) &&& 1) = 0 → J_X6_hear_39 x1 x2 post K11 v1 v2 v4 0 g) ∧ (¬ (((g.1 27 (Int32.toNatClampNeg v2)) >>> (v4 &&& 31)) &&& 1) = 0 → J_X6_hear_39 x1 x2 post K11 v1 v2 v4 1 g)))))
def V_X6_hear (x1 : Int32) (x2 : Int32) (g : St) (post : St → Prop) : Prop := lpP (fun K11 (z : Int32 × Int32 × Int32 × St) => J_X6_hear_11 x1 x2 post K11 z.1 z.2.1 z.2.2.1 z.2.2.2) (x1, x2, 0, g)
abbrev rm_X6_hear : Room := { frames := 3, cells := 0, slots := 0, locals := 66 }
set_option maxHeartbeats 4000000 in
set_option maxRecDepth 100000 in
theorem c_X6_hear (l : Launch) (D : va_G) (cs az a : Nat → Nat) (x1 : Int32) (x2 : Int32) (g : St) (post : St → Prop) (hv : V_X6_hear x1 x2 g post) : uMv l yX6_hear wsX6_hear rm_X6_hear D cs az (gW cs a) [.ref (a 0), .int x1, .int x2] g post := by
  refine u_ofV (cc := cX6_hear) (maxL := 6) (by decide) rfl (Nat.le_of_ble_eq_true rfl) ?_
  intro p e s m args below meth c F ls hC hr hk hl hE
  have hx := hC.1.1; have hb := hC.1.2.1; have hml := hC.1.2.2.1; have hts := hC.1.2.2.2.2
  have hown : s.vm.findClass RX6 = some m.cls := hC.1.2.2.2.1
  have hl : lv_has ls 6 [(0, .ref (a 0)), (1, .int x1), (2, .int x2)] := hl
  unfold V_X6_hear at hv
  have j_95 : ∀ (K11 : (Int32 × Int32 × Int32 × St) → Prop), (∀ (v1 : Int32) (v2 : Int32) (v4 : Int32) (g : St), K11 (v1, v2, v4, g) → ∀ (H : Heap) (locs : List Loc) (ls : Array Slot), uE D 52 gA (gO cs a) cs a F s g H locs → lv_has ls 6 [(0, .ref (a 0)), (1, .int v1), (2, .int v2), (3, .ref (a 4)), (4, .int v4)] → W p l e rm_X6_hear s m args below meth c H locs 0 0 (MQ below (va_Qv post (uB D (uW 52 gA (gO cs a) cs a)) F) args s 0 0 F) (F0 m 11 ls [])) → ∀ (v1 : Int32) (v2 : Int32) (v4 : Int32) (g : St), J_X6_hear_95 x1 x2 post K11 v1 v2 v4 g → ∀ (H : Heap) (locs : List Loc) (ls : Array Slot), uE D 52 gA (gO cs a) cs a F s g H locs → lv_has ls 6 [(0, .ref (a 0)), (1, .int v1), (2, .int v2), (3, .ref (a 4)), (4, .int v4)] → W p l e rm_X6_hear s m args below meth c H locs 0 0 (MQ below (va_Qv post (uB D (uW 52 gA (gO cs a) cs a)) F) args s 0 0 F) (F0 m 95 ls []) := by
    intro K11 hK11 v1 v2 v4 g  hv
    intro H locs ls hE hl
    unfold J_X6_hear_95 at hv
    refine lv_iinc (v := (v4 + 1)) (lv' := [(4, .int (v4 + 1)), (0, .ref (a 0)), (1, .int v1), (2, .int v2), (3, .ref (a 4))]) hx hb dX6_hear_95 hl (k := 4) rfl rfl (by decide) rfl (fun ls hl => ?_)
    refine lv_goto (tgt := 11) hx hb dX6_hear_98 (by decide) ?_
    exact hK11 _ _ _ _  hv _ _ _ hE (lv_sub hl [1, 2, 3, 4, 0] rfl)
  have j_39 : ∀ (K11 : (Int32 × Int32 × Int32 × St) → Prop), (∀ (v1 : Int32) (v2 : Int32) (v4 : Int32) (g : St), K11 (v1, v2, v4, g) → ∀ (H : Heap) (locs : List Loc) (ls : Array Slot), uE D 52 gA (gO cs a) cs a F s g H locs → lv_has ls 6 [(0, .ref (a 0)), (1, .int v1), (2, .int v2), (3, .ref (a 4)), (4, .int v4)] → W p l e rm_X6_hear s m args below meth c H locs 0 0 (MQ below (va_Qv post (uB D (uW 52 gA (gO cs a) cs a)) F) args s 0 0 F) (F0 m 11 ls [])) → ∀ (v1 : Int32) (v2 : Int32) (v4 : Int32) (t0 : Int32) (g : St), J_X6_hear_39 x1 x2 post K11 v1 v2 v4 t0 g → ∀ (H : Heap) (locs : List Loc) (ls : Array Slot), uE D 52 gA (gO cs a) cs a F s g H locs → lv_has ls 6 [(0, .ref (a 0)), (1, .int v1), (2, .int v2), (3, .ref (a 4)), (4, .int v4)] → W p l e rm_X6_hear s m args below meth c H locs 0 0 (MQ below (va_Qv post (uB D (uW 52 gA (gO cs a) cs a)) F) args s 0 0 F) (F0 m 39 ls [.int t0]) := by
    intro K11 hK11 v1 v2 v4 t0 g  hv
    intro H locs ls hE hl
    unfold J_X6_hear_39 at hv
    refine lv_istore (lv' := [(5, .int t0), (0, .ref (a 0)), (1, .int v1), (2, .int v2), (3, .ref (a 4)), (4, .int v4)]) hx hb dX6_hear_39 hl (by decide) rfl (fun ls hl => ?_)
    refine lv_iload hx hb dX6_hear_41 (lv_at hl 0 rfl) ?_
    refine lv_if_eq (tgt := 95) hx hb dX6_hear_43 (by decide) (fun c => ?_) (fun c => ?_)
    · have hv := hv.1 c
      exact j_95 _ hK11 _ _ _ _  hv _ _ _ hE (lv_sub hl [1, 2, 3, 4, 5] rfl)
    · have hv := hv.2 c
      refine lv_aload_n hx hb dX6_hear_46 rfl (lv_at hl 4 rfl) ?_
      refine lv_iload hx hb dX6_hear_47 (lv_at hl 5 rfl) ?_
      refine G_callVi hC (c_X5_owner l D cs az a (w := 0) (by decide) v4 g _ hv) (cwV 1 hts gX6_hear_X5_owner rfl rfl rfl (by decide +kernel) ⟨Nat.le_of_ble_eq_true rfl, Nat.le_of_ble_eq_true rfl⟩) (f_units (w := 0) (by decide)) rfl rfl hl rfl (Nat.le_of_ble_eq_true rfl) dX6_hear_49 hE (fun r2 g1 H locs hv hE => ?_)
      refine lv_iload_n hx hb dX6_hear_52 rfl (lv_at hl 2 rfl) ?_
      refine lv_icmp_eq (tgt := 95) hx hb dX6_hear_53 (by decide) (fun c => ?_) (fun c => ?_)
      · have hv := hv.1 c
        exact j_95 _ hK11 _ _ _ _  hv _ _ _ hE (lv_sub hl [1, 2, 3, 4, 5] rfl)
      · have hv := hv.2 c
        refine lv_aload_n hx hb dX6_hear_56 rfl (lv_at hl 1 rfl) ?_
        refine G_get (v := .ref (a 24)) hC hE (fun _ h => List.mem_cons_of_mem _ (List.mem_append_left _ (List.mem_append_left _ (List.mem_append_left _ (List.mem_append_left _ (List.mem_append_right _ h)))))) f_game rfl 3 (by decide) (hts (.fieldLink RX6 28 "SeedBattle" "indexes" "[LSeedBattle$Index;") (List.mem_of_getElem? (i := 3) rfl)) rfl dX6_hear_57 ?_
        refine lv_iload_n hx hb dX6_hear_60 rfl (lv_at hl 2 rfl) ?_
        have hq3 := vp_lt hv.1
        refine G_aald hC hE f_idxs (t := 3) rfl hv.1 dX6_hear_61 ?_
        have hv := hv.2
        refine lv_aload_n hx hb dX6_hear_62 rfl (lv_at hl 1 rfl) ?_
        refine G_get (v := .int (g1.2 1)) hC hE (fun _ h => List.mem_cons_of_mem _ (List.mem_append_left _ (List.mem_append_left _ (List.mem_append_left _ (List.mem_append_left _ (List.mem_append_right _ h)))))) f_game rfl 8 (by decide) (hts (.fieldLink RX6 108 "SeedBattle" "turnsDone" "I") (List.mem_of_getElem? (i := 4) rfl)) rfl dX6_hear_63 ?_
        refine lv_iload hx hb dX6_hear_66 (lv_at hl 5 rfl) ?_
        refine G_callVi hC (c_X2_has l D cs az a (ix := (Int32.toNatClampNeg v1)) hq3 (g1.2 1) v4 g1 _ hv) (cwV 2 hts gX6_hear_X2_has rfl rfl rfl (by decide +kernel) ⟨Nat.le_of_ble_eq_true rfl, Nat.le_of_ble_eq_true rfl⟩) (f_index hq3) rfl rfl hl rfl (Nat.le_of_ble_eq_true rfl) dX6_hear_68 hE (fun r5 g4 H locs hv hE => ?_)
        refine lv_if_ne (tgt := 95) hx hb dX6_hear_71 (by decide) (fun c => ?_) (fun c => ?_)
        · have hv := hv.1 c
          exact j_95 _ hK11 _ _ _ _  hv _ _ _ hE (lv_sub hl [1, 2, 3, 4, 5] rfl)
        · have hv := hv.2 c
          refine lv_aload_n hx hb dX6_hear_74 rfl (lv_at hl 1 rfl) ?_
          refine G_get (v := .ref (a 24)) hC hE (fun _ h => List.mem_cons_of_mem _ (List.mem_append_left _ (List.mem_append_left _ (List.mem_append_left _ (List.mem_append_left _ (List.mem_append_right _ h)))))) f_game rfl 3 (by decide) (hts (.fieldLink RX6 28 "SeedBattle" "indexes" "[LSeedBattle$Index;") (List.mem_of_getElem? (i := 3) rfl)) rfl dX6_hear_75 ?_
          refine lv_iload_n hx hb dX6_hear_78 rfl (lv_at hl 2 rfl) ?_
          have hq6 := vp_lt hv.1
          refine G_aald hC hE f_idxs (t := 3) rfl hv.1 dX6_hear_79 ?_
          have hv := hv.2
          refine lv_aload_n hx hb dX6_hear_80 rfl (lv_at hl 1 rfl) ?_
          refine G_get (v := .int (g4.2 1)) hC hE (fun _ h => List.mem_cons_of_mem _ (List.mem_append_left _ (List.mem_append_left _ (List.mem_append_left _ (List.mem_append_left _ (List.mem_append_right _ h)))))) f_game rfl 8 (by decide) (hts (.fieldLink RX6 108 "SeedBattle" "turnsDone" "I") (List.mem_of_getElem? (i := 4) rfl)) rfl dX6_hear_81 ?_
          refine lv_aload_n hx hb dX6_hear_84 rfl (lv_at hl 4 rfl) ?_
          refine lv_iload hx hb dX6_hear_85 (lv_at hl 5 rfl) ?_
          refine G_callVi hC (c_X5_place l D cs az a (w := 0) (by decide) v4 g4 _ hv) (cwV 1 hts gX6_hear_X5_place rfl rfl rfl (by decide +kernel) ⟨Nat.le_of_ble_eq_true rfl, Nat.le_of_ble_eq_true rfl⟩) (f_units (w := 0) (by decide)) rfl rfl hl rfl (Nat.le_of_ble_eq_true rfl) dX6_hear_87 hE (fun r8 g7 H locs hv hE => ?_)
          refine lv_iload hx hb dX6_hear_90 (lv_at hl 5 rfl) ?_
          refine G_callVv hC (c_X2_add l D cs az a (ix := (Int32.toNatClampNeg v1)) hq6 (g4.2 1) r8 v4 g7 _ hv) (cwV 3 hts gX6_hear_X2_add rfl rfl rfl (by decide +kernel) ⟨Nat.le_of_ble_eq_true rfl, Nat.le_of_ble_eq_true rfl⟩) (f_index hq6) rfl rfl hl rfl (Nat.le_of_ble_eq_true rfl) dX6_hear_92 hE (fun g9 H locs hv hE => ?_)
          exact j_95 _ hK11 _ _ _ _  hv _ _ _ hE (lv_sub hl [1, 2, 3, 4, 5] rfl)
  have j_11 : ∀ (v1 : Int32) (v2 : Int32) (v4 : Int32) (g : St), lpP (fun K11 (z : Int32 × Int32 × Int32 × St) => J_X6_hear_11 x1 x2 post K11 z.1 z.2.1 z.2.2.1 z.2.2.2) (v1, v2, v4, g) → ∀ (H : Heap) (locs : List Loc) (ls : Array Slot), uE D 52 gA (gO cs a) cs a F s g H locs → lv_has ls 6 [(0, .ref (a 0)), (1, .int v1), (2, .int v2), (3, .ref (a 4)), (4, .int v4)] → W p l e rm_X6_hear s m args below meth c H locs 0 0 (MQ below (va_Qv post (uB D (uW 52 gA (gO cs a) cs a)) F) args s 0 0 F) (F0 m 11 ls []) := by
    intro  v1 v2 v4 g  hv
    obtain ⟨nn, hv⟩ := hv
    induction nn generalizing v1 v2 v4 g with
    | zero => exact False.elim hv
    | succ nn hK11 =>
      intro H locs ls hE hl
      have hv : J_X6_hear_11 x1 x2 post (itP _ nn) v1 v2 v4 g := hv
      unfold J_X6_hear_11 at hv
      refine lv_iload hx hb dX6_hear_11 (lv_at hl 4 rfl) ?_
      refine lv_aload_n hx hb dX6_hear_13 rfl (lv_at hl 3 rfl) ?_
      refine G_getN (v := .int (g.2 3)) hC hE (fun _ h => List.mem_cons_of_mem _ (List.mem_append_left _ (List.mem_append_left _ (List.mem_append_right _ h)))) (f_units (w := 0) (by decide)) rfl 4 (by decide) (List.mem_of_getElem? (i := 5) rfl) rfl dX6_hear_14 ?_
      refine lv_icmp_ge (tgt := 101) hx hb dX6_hear_17 (by decide) (fun c => ?_) (fun c => ?_)
      · have hv := hv.1 c
        exact G_vret hC hr hk hE hv dX6_hear_101
      · have hv := hv.2 c
        refine lv_aload_n hx hb dX6_hear_20 rfl (lv_at hl 0 rfl) ?_
        refine G_get (v := .ref (a 27)) hC hE (fun _ h => List.mem_cons_of_mem _ (List.mem_append_left _ (List.mem_append_left _ (List.mem_append_left _ (List.mem_append_left _ (List.mem_append_right _ h)))))) f_game rfl 6 (by decide) (hts (.fieldLink RX6 42 "SeedBattle" "ownSights" "[I") (List.mem_of_getElem? (i := 2) rfl)) rfl dX6_hear_21 ?_
        refine lv_iload_n hx hb dX6_hear_24 rfl (lv_at hl 2 rfl) ?_
        refine G_iald hC hE f_sights hv.1 dX6_hear_25 ?_
        have hv := hv.2
        refine lv_iload hx hb dX6_hear_26 (lv_at hl 4 rfl) ?_
        refine lv_ishr hx hb dX6_hear_28 ?_
        refine lv_iconst (v := 1) hx hb dX6_hear_29 (by decide) ?_
        refine lv_iand hx hb dX6_hear_30 ?_
        refine lv_if_eq (tgt := 38) hx hb dX6_hear_31 (by decide) (fun c => ?_) (fun c => ?_)
        · have hv := hv.1 c
          refine lv_iconst (v := 0) hx hb dX6_hear_38 (by decide) ?_
          exact j_39 _ hK11 _ _ _ _ _  hv _ _ _ hE (lv_sub hl [0, 1, 2, 3, 4] rfl)
        · have hv := hv.2 c
          refine lv_iconst (v := 1) hx hb dX6_hear_34 (by decide) ?_
          refine lv_goto (tgt := 39) hx hb dX6_hear_35 (by decide) ?_
          exact j_39 _ hK11 _ _ _ _ _  hv _ _ _ hE (lv_sub hl [0, 1, 2, 3, 4] rfl)
  refine lv_aload_n hx hb dX6_hear_0 rfl (lv_at hl 0 rfl) ?_
  refine G_get (v := .ref (a 1)) hC hE (fun _ h => List.mem_cons_of_mem _ (List.mem_append_left _ (List.mem_append_left _ (List.mem_append_left _ (List.mem_append_left _ (List.mem_append_right _ h)))))) f_game rfl 0 (by decide) (hts (.fieldLink RX6 10 "SeedBattle" "field" "LSeedBattle$Field;") (List.mem_of_getElem? (i := 1) rfl)) rfl dX6_hear_1 ?_
  refine G_getN (v := .ref (a 4)) hC hE (fun _ h => List.mem_cons_of_mem _ (List.mem_append_left _ (List.mem_append_left _ (List.mem_append_left _ (List.mem_append_right _ h))))) (f_field (w := 0) (by decide)) rfl 1 (by decide) (List.mem_of_getElem? (i := 4) rfl) rfl dX6_hear_4 ?_
  refine lv_astore_n (lv' := [(3, .ref (a 4)), (0, .ref (a 0)), (1, .int x1), (2, .int x2)]) hx hb dX6_hear_7 rfl hl (by decide) rfl (fun ls hl => ?_)
  refine lv_iconst (v := 0) hx hb dX6_hear_8 (by decide) ?_
  refine lv_istore (lv' := [(4, .int 0), (3, .ref (a 4)), (0, .ref (a 0)), (1, .int x1), (2, .int x2)]) hx hb dX6_hear_9 hl (by decide) rfl (fun ls hl => ?_)
  exact j_11  _ _ _ _  hv _ _ _ hE (lv_sub hl [2, 3, 4, 1, 0] rfl)
def J_X6_hearAll_22 (x1 : Int32) (post : St → Prop) (K2 : (Int32 × Int32 × St) → Prop) (v1 : Int32) (v2 : Int32) (g : St) : Prop := K2 (v1, (v2 + 1), g)
def J_X6_hearAll_2 (x1 : Int32) (post : St → Prop) (K2 : (Int32 × Int32 × St) → Prop) (v1 : Int32) (v2 : Int32) (g : St) : Prop := ((4 ≤ v2 → post g) ∧ (¬ 4 ≤ v2 → V_X6_hasTreaty v1 v2 g (fun r2 g1 => ((r2 = 0 → J_X6_hearAll_22 x1 post K2 v1 v2 g1) ∧ (¬ r2 = 0 → V_X6_hear v1 v2 g1 (fun g3 => J_X6_hearAll_22 x1 post K2 v1 v2 g3))))))
def V_X6_hearAll (x1 : Int32) (g : St) (post : St → Prop) : Prop := lpP (fun K2 (z : Int32 × Int32 × St) => J_X6_hearAll_2 x1 post K2 z.1 z.2.1 z.2.2) (x1, 0, g)
abbrev rm_X6_hearAll : Room := { frames := 4, cells := 0, slots := 0, locals := 91 }
set_option maxHeartbeats 4000000 in
set_option maxRecDepth 100000 in
theorem c_X6_hearAll (l : Launch) (D : va_G) (cs az a : Nat → Nat) (x1 : Int32) (g : St) (post : St → Prop) (hv : V_X6_hearAll x1 g post) : uMv l yX6_hearAll wsX6_hearAll rm_X6_hearAll D cs az (gW cs a) [.ref (a 0), .int x1] g post := by
  refine u_ofV (cc := cX6_hearAll) (maxL := 3) (by decide) rfl (Nat.le_of_ble_eq_true rfl) ?_
  intro p e s m args below meth c F ls hC hr hk hl hE
  have hx := hC.1.1; have hb := hC.1.2.1; have hml := hC.1.2.2.1; have hts := hC.1.2.2.2.2
  have hown : s.vm.findClass RX6 = some m.cls := hC.1.2.2.2.1
  have hl : lv_has ls 3 [(0, .ref (a 0)), (1, .int x1)] := hl
  unfold V_X6_hearAll at hv
  have j_22 : ∀ (K2 : (Int32 × Int32 × St) → Prop), (∀ (v1 : Int32) (v2 : Int32) (g : St), K2 (v1, v2, g) → ∀ (H : Heap) (locs : List Loc) (ls : Array Slot), uE D 52 gA (gO cs a) cs a F s g H locs → lv_has ls 3 [(0, .ref (a 0)), (1, .int v1), (2, .int v2)] → W p l e rm_X6_hearAll s m args below meth c H locs 0 0 (MQ below (va_Qv post (uB D (uW 52 gA (gO cs a) cs a)) F) args s 0 0 F) (F0 m 2 ls [])) → ∀ (v1 : Int32) (v2 : Int32) (g : St), J_X6_hearAll_22 x1 post K2 v1 v2 g → ∀ (H : Heap) (locs : List Loc) (ls : Array Slot), uE D 52 gA (gO cs a) cs a F s g H locs → lv_has ls 3 [(0, .ref (a 0)), (1, .int v1), (2, .int v2)] → W p l e rm_X6_hearAll s m args below meth c H locs 0 0 (MQ below (va_Qv post (uB D (uW 52 gA (gO cs a) cs a)) F) args s 0 0 F) (F0 m 22 ls []) := by
    intro K2 hK2 v1 v2 g  hv
    intro H locs ls hE hl
    unfold J_X6_hearAll_22 at hv
    refine lv_iinc (v := (v2 + 1)) (lv' := [(2, .int (v2 + 1)), (0, .ref (a 0)), (1, .int v1)]) hx hb dX6_hearAll_22 hl (k := 2) rfl rfl (by decide) rfl (fun ls hl => ?_)
    refine lv_goto (tgt := 2) hx hb dX6_hearAll_25 (by decide) ?_
    exact hK2 _ _ _  hv _ _ _ hE (lv_sub hl [1, 2, 0] rfl)
  have j_2 : ∀ (v1 : Int32) (v2 : Int32) (g : St), lpP (fun K2 (z : Int32 × Int32 × St) => J_X6_hearAll_2 x1 post K2 z.1 z.2.1 z.2.2) (v1, v2, g) → ∀ (H : Heap) (locs : List Loc) (ls : Array Slot), uE D 52 gA (gO cs a) cs a F s g H locs → lv_has ls 3 [(0, .ref (a 0)), (1, .int v1), (2, .int v2)] → W p l e rm_X6_hearAll s m args below meth c H locs 0 0 (MQ below (va_Qv post (uB D (uW 52 gA (gO cs a) cs a)) F) args s 0 0 F) (F0 m 2 ls []) := by
    intro  v1 v2 g  hv
    obtain ⟨nn, hv⟩ := hv
    induction nn generalizing v1 v2 g with
    | zero => exact False.elim hv
    | succ nn hK2 =>
      intro H locs ls hE hl
      have hv : J_X6_hearAll_2 x1 post (itP _ nn) v1 v2 g := hv
      unfold J_X6_hearAll_2 at hv
      refine lv_iload_n hx hb dX6_hearAll_2 rfl (lv_at hl 2 rfl) ?_
      refine lv_iconst (v := 4) hx hb dX6_hearAll_3 (by decide) ?_
      refine lv_icmp_ge (tgt := 28) hx hb dX6_hearAll_4 (by decide) (fun c => ?_) (fun c => ?_)
      · have hv := hv.1 c
        exact G_vret hC hr hk hE hv dX6_hearAll_28
      · have hv := hv.2 c
        refine lv_aload_n hx hb dX6_hearAll_7 rfl (lv_at hl 0 rfl) ?_
        refine lv_iload_n hx hb dX6_hearAll_8 rfl (lv_at hl 1 rfl) ?_
        refine lv_iload_n hx hb dX6_hearAll_9 rfl (lv_at hl 2 rfl) ?_
        refine G_callVi hC (c_X6_hasTreaty l D cs az a v1 v2 g _ hv) (cwV 2 hts gX6_hearAll_X6_hasTreaty rfl rfl rfl (by decide +kernel) ⟨Nat.le_of_ble_eq_true rfl, Nat.le_of_ble_eq_true rfl⟩) f_game rfl rfl hl rfl (Nat.le_of_ble_eq_true rfl) dX6_hearAll_10 hE (fun r2 g1 H locs hv hE => ?_)
        refine lv_if_eq (tgt := 22) hx hb dX6_hearAll_13 (by decide) (fun c => ?_) (fun c => ?_)
        · have hv := hv.1 c
          exact j_22 _ hK2 _ _ _  hv _ _ _ hE (lv_sub hl [0, 1, 2] rfl)
        · have hv := hv.2 c
          refine lv_aload_n hx hb dX6_hearAll_16 rfl (lv_at hl 0 rfl) ?_
          refine lv_iload_n hx hb dX6_hearAll_17 rfl (lv_at hl 1 rfl) ?_
          refine lv_iload_n hx hb dX6_hearAll_18 rfl (lv_at hl 2 rfl) ?_
          refine G_callVv hC (c_X6_hear l D cs az a v1 v2 g1 _ hv) (cwV 2 hts gX6_hearAll_X6_hear rfl rfl rfl (by decide +kernel) ⟨Nat.le_of_ble_eq_true rfl, Nat.le_of_ble_eq_true rfl⟩) f_game rfl rfl hl rfl (Nat.le_of_ble_eq_true rfl) dX6_hearAll_19 hE (fun g3 H locs hv hE => ?_)
          exact j_22 _ hK2 _ _ _  hv _ _ _ hE (lv_sub hl [0, 1, 2] rfl)
  refine lv_iconst (v := 0) hx hb dX6_hearAll_0 (by decide) ?_
  refine lv_istore_n (lv' := [(2, .int 0), (0, .ref (a 0)), (1, .int x1)]) hx hb dX6_hearAll_1 rfl hl (by decide) rfl (fun ls hl => ?_)
  exact j_2  _ _ _  hv _ _ _ hE (lv_sub hl [1, 2, 0] rfl)
def J_X6_unitsAreWhereReplayed_62  (post : Int32 → St → Prop) (K62 : (Int32 × St) → Prop) (v1 : Int32) (g : St) : Prop := (((g.2 3) ≤ v1 → post 1 g) ∧ (¬ (g.2 3) ≤ v1 → V_X5_place 1 v1 g (fun r6 g5 => V_X5_place 0 v1 g5 (fun r8 g7 => ((r6 = r8 → K62 ((v1 + 1), g7)) ∧ (¬ r6 = r8 → post 0 g7))))))
def J_X6_unitsAreWhereReplayed_33  (post : Int32 → St → Prop) (K33 : (Int32 × St) → Prop) (v1 : Int32) (g : St) : Prop := (((g.2 1) ≤ v1 → lpP (fun K62 (z : Int32 × St) => J_X6_unitsAreWhereReplayed_62 post K62 z.1 z.2) (0, g)) ∧ (¬ (g.2 1) ≤ v1 → V_X1_playTurn 1 v1 g (fun r4 g3 => K33 ((v1 + 1), g3))))
def V_X6_unitsAreWhereReplayed  (g : St) (post : Int32 → St → Prop) : Prop := V_X3_grow 1 (g.2 0) g (fun g1 => V_X5_startLike g1 (fun g2 => lpP (fun K33 (z : Int32 × St) => J_X6_unitsAreWhereReplayed_33 post K33 z.1 z.2) (0, g2)))
abbrev rm_X6_unitsAreWhereReplayed : Room := { frames := 5, cells := 0, slots := 0, locals := 117 }
set_option maxHeartbeats 4000000 in
set_option maxRecDepth 100000 in
theorem c_X6_unitsAreWhereReplayed (l : Launch) (D : va_G) (cs az a : Nat → Nat)  (g : St) (post : Int32 → St → Prop) (hv : V_X6_unitsAreWhereReplayed  g post) : uMi l yX6_unitsAreWhereReplayed wsX6_unitsAreWhereReplayed rm_X6_unitsAreWhereReplayed D cs az (gW cs a) [.ref (a 0)] g post := by
  refine u_ofI (cc := cX6_unitsAreWhereReplayed) (maxL := 2) (by decide) rfl (Nat.le_of_ble_eq_true rfl) ?_
  intro p e s m args below meth c F ls hC hr hk hl hE
  have hx := hC.1.1; have hb := hC.1.2.1; have hml := hC.1.2.2.1; have hts := hC.1.2.2.2.2
  have hown : s.vm.findClass RX6 = some m.cls := hC.1.2.2.2.1
  have hl : lv_has ls 2 [(0, .ref (a 0))] := hl
  unfold V_X6_unitsAreWhereReplayed at hv
  have j_62 : ∀ (v1 : Int32) (g : St), lpP (fun K62 (z : Int32 × St) => J_X6_unitsAreWhereReplayed_62 post K62 z.1 z.2) (v1, g) → ∀ (H : Heap) (locs : List Loc) (ls : Array Slot), uE D 52 gA (gO cs a) cs a F s g H locs → lv_has ls 2 [(0, .ref (a 0)), (1, .int v1)] → W p l e rm_X6_unitsAreWhereReplayed s m args below meth c H locs 0 0 (MQ below (va_Qi post (uB D (uW 52 gA (gO cs a) cs a)) F) args s 0 0 F) (F0 m 62 ls []) := by
    intro  v1 g  hv
    obtain ⟨nn, hv⟩ := hv
    induction nn generalizing v1 g with
    | zero => exact False.elim hv
    | succ nn hK62 =>
      intro H locs ls hE hl
      have hv : J_X6_unitsAreWhereReplayed_62 post (itP _ nn) v1 g := hv
      unfold J_X6_unitsAreWhereReplayed_62 at hv
      refine lv_iload_n hx hb dX6_unitsAreWhereReplayed_62 rfl (lv_at hl 1 rfl) ?_
      refine lv_aload_n hx hb dX6_unitsAreWhereReplayed_63 rfl (lv_at hl 0 rfl) ?_
      refine G_get (v := .ref (a 1)) hC hE (fun _ h => List.mem_cons_of_mem _ (List.mem_append_left _ (List.mem_append_left _ (List.mem_append_left _ (List.mem_append_left _ (List.mem_append_left _ (List.mem_append_left _ (List.mem_append_right _ h)))))))) f_game rfl 0 (by decide) (hts (.fieldLink RX6 10 "SeedBattle" "field" "LSeedBattle$Field;") (List.mem_of_getElem? (i := 3) rfl)) rfl dX6_unitsAreWhereReplayed_64 ?_
      refine G_getN (v := .ref (a 4)) hC hE (fun _ h => List.mem_cons_of_mem _ (List.mem_append_left _ (List.mem_append_left _ (List.mem_append_left _ (List.mem_append_left _ (List.mem_append_left _ (List.mem_append_right _ h))))))) (f_field (w := 0) (by decide)) rfl 1 (by decide) (List.mem_of_getElem? (i := 4) rfl) rfl dX6_unitsAreWhereReplayed_67 ?_
      refine G_getN (v := .int (g.2 3)) hC hE (fun _ h => List.mem_cons_of_mem _ (List.mem_append_left _ (List.mem_append_left _ (List.mem_append_left _ (List.mem_append_left _ (List.mem_append_right _ h)))))) (f_units (w := 0) (by decide)) rfl 4 (by decide) (List.mem_of_getElem? (i := 5) rfl) rfl dX6_unitsAreWhereReplayed_70 ?_
      refine lv_icmp_ge (tgt := 109) hx hb dX6_unitsAreWhereReplayed_73 (by decide) (fun c => ?_) (fun c => ?_)
      · have hv := hv.1 c
        refine lv_iconst (v := 1) hx hb dX6_unitsAreWhereReplayed_109 (by decide) ?_
        exact G_zret hC hr hk hE rfl hv dX6_unitsAreWhereReplayed_110
      · have hv := hv.2 c
        refine lv_aload_n hx hb dX6_unitsAreWhereReplayed_76 rfl (lv_at hl 0 rfl) ?_
        refine G_get (v := .ref (a 11)) hC hE (fun _ h => List.mem_cons_of_mem _ (List.mem_append_left _ (List.mem_append_left _ (List.mem_append_left _ (List.mem_append_left _ (List.mem_append_left _ (List.mem_append_left _ (List.mem_append_right _ h)))))))) f_game rfl 1 (by decide) (hts (.fieldLink RX6 16 "SeedBattle" "rehearsal" "LSeedBattle$Field;") (List.mem_of_getElem? (i := 1) rfl)) rfl dX6_unitsAreWhereReplayed_77 ?_
        refine G_getN (v := .ref (a 14)) hC hE (fun _ h => List.mem_cons_of_mem _ (List.mem_append_left _ (List.mem_append_left _ (List.mem_append_left _ (List.mem_append_left _ (List.mem_append_left _ (List.mem_append_right _ h))))))) (f_field (w := 1) (by decide)) rfl 1 (by decide) (List.mem_of_getElem? (i := 4) rfl) rfl dX6_unitsAreWhereReplayed_80 ?_
        refine lv_iload_n hx hb dX6_unitsAreWhereReplayed_83 rfl (lv_at hl 1 rfl) ?_
        refine G_callVi hC (c_X5_place l D cs az a (w := 1) (by decide) v1 g _ hv) (cwV 1 hts gX6_unitsAreWhereReplayed_X5_place rfl rfl rfl (by decide +kernel) ⟨Nat.le_of_ble_eq_true rfl, Nat.le_of_ble_eq_true rfl⟩) (f_units (w := 1) (by decide)) rfl rfl hl rfl (Nat.le_of_ble_eq_true rfl) dX6_unitsAreWhereReplayed_84 hE (fun r6 g5 H locs hv hE => ?_)
        refine lv_aload_n hx hb dX6_unitsAreWhereReplayed_87 rfl (lv_at hl 0 rfl) ?_
        refine G_get (v := .ref (a 1)) hC hE (fun _ h => List.mem_cons_of_mem _ (List.mem_append_left _ (List.mem_append_left _ (List.mem_append_left _ (List.mem_append_left _ (List.mem_append_left _ (List.mem_append_left _ (List.mem_append_right _ h)))))))) f_game rfl 0 (by decide) (hts (.fieldLink RX6 10 "SeedBattle" "field" "LSeedBattle$Field;") (List.mem_of_getElem? (i := 3) rfl)) rfl dX6_unitsAreWhereReplayed_88 ?_
        refine G_getN (v := .ref (a 4)) hC hE (fun _ h => List.mem_cons_of_mem _ (List.mem_append_left _ (List.mem_append_left _ (List.mem_append_left _ (List.mem_append_left _ (List.mem_append_left _ (List.mem_append_right _ h))))))) (f_field (w := 0) (by decide)) rfl 1 (by decide) (List.mem_of_getElem? (i := 4) rfl) rfl dX6_unitsAreWhereReplayed_91 ?_
        refine lv_iload_n hx hb dX6_unitsAreWhereReplayed_94 rfl (lv_at hl 1 rfl) ?_
        refine G_callVi hC (c_X5_place l D cs az a (w := 0) (by decide) v1 g5 _ hv) (cwV 1 hts gX6_unitsAreWhereReplayed_X5_place rfl rfl rfl (by decide +kernel) ⟨Nat.le_of_ble_eq_true rfl, Nat.le_of_ble_eq_true rfl⟩) (f_units (w := 0) (by decide)) rfl rfl hl rfl (Nat.le_of_ble_eq_true rfl) dX6_unitsAreWhereReplayed_95 hE (fun r8 g7 H locs hv hE => ?_)
        refine lv_icmp_eq (tgt := 103) hx hb dX6_unitsAreWhereReplayed_98 (by decide) (fun c => ?_) (fun c => ?_)
        · have hv := hv.1 c
          refine lv_iinc (v := (v1 + 1)) (lv' := [(1, .int (v1 + 1)), (0, .ref (a 0))]) hx hb dX6_unitsAreWhereReplayed_103 hl (k := 1) rfl rfl (by decide) rfl (fun ls hl => ?_)
          refine lv_goto (tgt := 62) hx hb dX6_unitsAreWhereReplayed_106 (by decide) ?_
          exact hK62 _ _  hv _ _ _ hE (lv_sub hl [1, 0] rfl)
        · have hv := hv.2 c
          refine lv_iconst (v := 0) hx hb dX6_unitsAreWhereReplayed_101 (by decide) ?_
          exact G_zret hC hr hk hE rfl hv dX6_unitsAreWhereReplayed_102
  have j_33 : ∀ (v1 : Int32) (g : St), lpP (fun K33 (z : Int32 × St) => J_X6_unitsAreWhereReplayed_33 post K33 z.1 z.2) (v1, g) → ∀ (H : Heap) (locs : List Loc) (ls : Array Slot), uE D 52 gA (gO cs a) cs a F s g H locs → lv_has ls 2 [(0, .ref (a 0)), (1, .int v1)] → W p l e rm_X6_unitsAreWhereReplayed s m args below meth c H locs 0 0 (MQ below (va_Qi post (uB D (uW 52 gA (gO cs a) cs a)) F) args s 0 0 F) (F0 m 33 ls []) := by
    intro  v1 g  hv
    obtain ⟨nn, hv⟩ := hv
    induction nn generalizing v1 g with
    | zero => exact False.elim hv
    | succ nn hK33 =>
      intro H locs ls hE hl
      have hv : J_X6_unitsAreWhereReplayed_33 post (itP _ nn) v1 g := hv
      unfold J_X6_unitsAreWhereReplayed_33 at hv
      refine lv_iload_n hx hb dX6_unitsAreWhereReplayed_33 rfl (lv_at hl 1 rfl) ?_
      refine lv_aload_n hx hb dX6_unitsAreWhereReplayed_34 rfl (lv_at hl 0 rfl) ?_
      refine G_get (v := .int (g.2 1)) hC hE (fun _ h => List.mem_cons_of_mem _ (List.mem_append_left _ (List.mem_append_left _ (List.mem_append_left _ (List.mem_append_left _ (List.mem_append_left _ (List.mem_append_left _ (List.mem_append_right _ h)))))))) f_game rfl 8 (by decide) (hts (.fieldLink RX6 108 "SeedBattle" "turnsDone" "I") (List.mem_of_getElem? (i := 4) rfl)) rfl dX6_unitsAreWhereReplayed_35 ?_
      refine lv_icmp_ge (tgt := 60) hx hb dX6_unitsAreWhereReplayed_38 (by decide) (fun c => ?_) (fun c => ?_)
      · have hv := hv.1 c
        refine lv_iconst (v := 0) hx hb dX6_unitsAreWhereReplayed_60 (by decide) ?_
        refine lv_istore_n (lv' := [(1, .int 0), (0, .ref (a 0))]) hx hb dX6_unitsAreWhereReplayed_61 rfl hl (by decide) rfl (fun ls hl => ?_)
        exact j_62  _ _  hv _ _ _ hE (lv_sub hl [1, 0] rfl)
      · have hv := hv.2 c
        refine lv_aload_n hx hb dX6_unitsAreWhereReplayed_41 rfl (lv_at hl 0 rfl) ?_
        refine G_get (v := .ref (a 11)) hC hE (fun _ h => List.mem_cons_of_mem _ (List.mem_append_left _ (List.mem_append_left _ (List.mem_append_left _ (List.mem_append_left _ (List.mem_append_left _ (List.mem_append_left _ (List.mem_append_right _ h)))))))) f_game rfl 1 (by decide) (hts (.fieldLink RX6 16 "SeedBattle" "rehearsal" "LSeedBattle$Field;") (List.mem_of_getElem? (i := 1) rfl)) rfl dX6_unitsAreWhereReplayed_42 ?_
        refine lv_aload_n hx hb dX6_unitsAreWhereReplayed_45 rfl (lv_at hl 0 rfl) ?_
        refine G_get (v := .ref (a 21)) hC hE (fun _ h => List.mem_cons_of_mem _ (List.mem_append_left _ (List.mem_append_left _ (List.mem_append_left _ (List.mem_append_left _ (List.mem_append_left _ (List.mem_append_left _ (List.mem_append_right _ h)))))))) f_game rfl 2 (by decide) (hts (.fieldLink RX6 22 "SeedBattle" "orders" "LSeedBattle$Orders;") (List.mem_of_getElem? (i := 5) rfl)) rfl dX6_unitsAreWhereReplayed_46 ?_
        refine lv_iload_n hx hb dX6_unitsAreWhereReplayed_49 rfl (lv_at hl 1 rfl) ?_
        refine G_callVi hC (c_X1_playTurn l D cs az a (w := 1) (by decide) v1 g _ hv) (cwV 2 hts gX6_unitsAreWhereReplayed_X1_playTurn rfl rfl rfl (by decide +kernel) ⟨Nat.le_of_ble_eq_true rfl, Nat.le_of_ble_eq_true rfl⟩) (f_field (w := 1) (by decide)) rfl rfl hl rfl (Nat.le_of_ble_eq_true rfl) dX6_unitsAreWhereReplayed_50 hE (fun r4 g3 H locs hv hE => ?_)
        refine lv_pop hx hb dX6_unitsAreWhereReplayed_53 rfl ?_
        refine lv_iinc (v := (v1 + 1)) (lv' := [(1, .int (v1 + 1)), (0, .ref (a 0))]) hx hb dX6_unitsAreWhereReplayed_54 hl (k := 1) rfl rfl (by decide) rfl (fun ls hl => ?_)
        refine lv_goto (tgt := 33) hx hb dX6_unitsAreWhereReplayed_57 (by decide) ?_
        exact hK33 _ _  hv _ _ _ hE (lv_sub hl [1, 0] rfl)
  refine lv_aload_n hx hb dX6_unitsAreWhereReplayed_0 rfl (lv_at hl 0 rfl) ?_
  refine G_get (v := .ref (a 11)) hC hE (fun _ h => List.mem_cons_of_mem _ (List.mem_append_left _ (List.mem_append_left _ (List.mem_append_left _ (List.mem_append_left _ (List.mem_append_left _ (List.mem_append_left _ (List.mem_append_right _ h)))))))) f_game rfl 1 (by decide) (hts (.fieldLink RX6 16 "SeedBattle" "rehearsal" "LSeedBattle$Field;") (List.mem_of_getElem? (i := 1) rfl)) rfl dX6_unitsAreWhereReplayed_1 ?_
  refine G_getN (v := .ref (a 12)) hC hE (fun _ h => List.mem_cons_of_mem _ (List.mem_append_left _ (List.mem_append_left _ (List.mem_append_left _ (List.mem_append_left _ (List.mem_append_left _ (List.mem_append_right _ h))))))) (f_field (w := 1) (by decide)) rfl 0 (by decide) (List.mem_of_getElem? (i := 3) rfl) rfl dX6_unitsAreWhereReplayed_4 ?_
  refine lv_aload_n hx hb dX6_unitsAreWhereReplayed_7 rfl (lv_at hl 0 rfl) ?_
  refine G_get (v := .int (g.2 0)) hC hE (fun _ h => List.mem_cons_of_mem _ (List.mem_append_left _ (List.mem_append_left _ (List.mem_append_left _ (List.mem_append_left _ (List.mem_append_left _ (List.mem_append_left _ (List.mem_append_right _ h)))))))) f_game rfl 7 (by decide) (hts (.fieldLink RX6 74 "SeedBattle" "seedNow" "I") (List.mem_of_getElem? (i := 2) rfl)) rfl dX6_unitsAreWhereReplayed_8 ?_
  refine G_callVv hC (c_X3_grow l D cs az a (w := 1) (by decide) (g.2 0) g _ hv) (cwV 1 hts gX6_unitsAreWhereReplayed_X3_grow rfl rfl rfl (by decide +kernel) ⟨Nat.le_of_ble_eq_true rfl, Nat.le_of_ble_eq_true rfl⟩) (f_land (w := 1) (by decide)) rfl rfl hl rfl (Nat.le_of_ble_eq_true rfl) dX6_unitsAreWhereReplayed_11 hE (fun g1 H locs hv hE => ?_)
  refine lv_aload_n hx hb dX6_unitsAreWhereReplayed_14 rfl (lv_at hl 0 rfl) ?_
  refine G_get (v := .ref (a 11)) hC hE (fun _ h => List.mem_cons_of_mem _ (List.mem_append_left _ (List.mem_append_left _ (List.mem_append_left _ (List.mem_append_left _ (List.mem_append_left _ (List.mem_append_left _ (List.mem_append_right _ h)))))))) f_game rfl 1 (by decide) (hts (.fieldLink RX6 16 "SeedBattle" "rehearsal" "LSeedBattle$Field;") (List.mem_of_getElem? (i := 1) rfl)) rfl dX6_unitsAreWhereReplayed_15 ?_
  refine G_getN (v := .ref (a 14)) hC hE (fun _ h => List.mem_cons_of_mem _ (List.mem_append_left _ (List.mem_append_left _ (List.mem_append_left _ (List.mem_append_left _ (List.mem_append_left _ (List.mem_append_right _ h))))))) (f_field (w := 1) (by decide)) rfl 1 (by decide) (List.mem_of_getElem? (i := 4) rfl) rfl dX6_unitsAreWhereReplayed_18 ?_
  refine lv_aload_n hx hb dX6_unitsAreWhereReplayed_21 rfl (lv_at hl 0 rfl) ?_
  refine G_get (v := .ref (a 1)) hC hE (fun _ h => List.mem_cons_of_mem _ (List.mem_append_left _ (List.mem_append_left _ (List.mem_append_left _ (List.mem_append_left _ (List.mem_append_left _ (List.mem_append_left _ (List.mem_append_right _ h)))))))) f_game rfl 0 (by decide) (hts (.fieldLink RX6 10 "SeedBattle" "field" "LSeedBattle$Field;") (List.mem_of_getElem? (i := 3) rfl)) rfl dX6_unitsAreWhereReplayed_22 ?_
  refine G_getN (v := .ref (a 4)) hC hE (fun _ h => List.mem_cons_of_mem _ (List.mem_append_left _ (List.mem_append_left _ (List.mem_append_left _ (List.mem_append_left _ (List.mem_append_left _ (List.mem_append_right _ h))))))) (f_field (w := 0) (by decide)) rfl 1 (by decide) (List.mem_of_getElem? (i := 4) rfl) rfl dX6_unitsAreWhereReplayed_25 ?_
  refine G_callVv hC (c_X5_startLike l D cs az a  g1 _ hv) (cwV 1 hts gX6_unitsAreWhereReplayed_X5_startLike rfl rfl rfl (by decide +kernel) ⟨Nat.le_of_ble_eq_true rfl, Nat.le_of_ble_eq_true rfl⟩) (f_units (w := 1) (by decide)) rfl rfl hl rfl (Nat.le_of_ble_eq_true rfl) dX6_unitsAreWhereReplayed_28 hE (fun g2 H locs hv hE => ?_)
  refine lv_iconst (v := 0) hx hb dX6_unitsAreWhereReplayed_31 (by decide) ?_
  refine lv_istore_n (lv' := [(1, .int 0), (0, .ref (a 0))]) hx hb dX6_unitsAreWhereReplayed_32 rfl hl (by decide) rfl (fun ls hl => ?_)
  exact j_33  _ _  hv _ _ _ hE (lv_sub hl [1, 0] rfl)
def J_X6_savesAreAsTaken_2  (post : Int32 → St → Prop) (K2 : (Int32 × St) → Prop) (v1 : Int32) (g : St) : Prop := ((4 ≤ v1 → post 1 g) ∧ (¬ 4 ≤ v1 → vp_in v1 4 ∧ (V_X0_isAsTaken (Int32.toNatClampNeg v1) g (fun r3 g2 => ((¬ r3 = 0 → K2 ((v1 + 1), g2)) ∧ (r3 = 0 → post 0 g2))))))
def V_X6_savesAreAsTaken  (g : St) (post : Int32 → St → Prop) : Prop := lpP (fun K2 (z : Int32 × St) => J_X6_savesAreAsTaken_2 post K2 z.1 z.2) (0, g)
abbrev rm_X6_savesAreAsTaken : Room := { frames := 3, cells := 0, slots := 0, locals := 62 }
set_option maxHeartbeats 4000000 in
set_option maxRecDepth 100000 in
theorem c_X6_savesAreAsTaken (l : Launch) (D : va_G) (cs az a : Nat → Nat)  (g : St) (post : Int32 → St → Prop) (hv : V_X6_savesAreAsTaken  g post) : uMi l yX6_savesAreAsTaken wsX6_savesAreAsTaken rm_X6_savesAreAsTaken D cs az (gW cs a) [.ref (a 0)] g post := by
  refine u_ofI (cc := cX6_savesAreAsTaken) (maxL := 2) (by decide) rfl (Nat.le_of_ble_eq_true rfl) ?_
  intro p e s m args below meth c F ls hC hr hk hl hE
  have hx := hC.1.1; have hb := hC.1.2.1; have hml := hC.1.2.2.1; have hts := hC.1.2.2.2.2
  have hown : s.vm.findClass RX6 = some m.cls := hC.1.2.2.2.1
  have hl : lv_has ls 2 [(0, .ref (a 0))] := hl
  unfold V_X6_savesAreAsTaken at hv
  have j_2 : ∀ (v1 : Int32) (g : St), lpP (fun K2 (z : Int32 × St) => J_X6_savesAreAsTaken_2 post K2 z.1 z.2) (v1, g) → ∀ (H : Heap) (locs : List Loc) (ls : Array Slot), uE D 52 gA (gO cs a) cs a F s g H locs → lv_has ls 2 [(0, .ref (a 0)), (1, .int v1)] → W p l e rm_X6_savesAreAsTaken s m args below meth c H locs 0 0 (MQ below (va_Qi post (uB D (uW 52 gA (gO cs a) cs a)) F) args s 0 0 F) (F0 m 2 ls []) := by
    intro  v1 g  hv
    obtain ⟨nn, hv⟩ := hv
    induction nn generalizing v1 g with
    | zero => exact False.elim hv
    | succ nn hK2 =>
      intro H locs ls hE hl
      have hv : J_X6_savesAreAsTaken_2 post (itP _ nn) v1 g := hv
      unfold J_X6_savesAreAsTaken_2 at hv
      refine lv_iload_n hx hb dX6_savesAreAsTaken_2 rfl (lv_at hl 1 rfl) ?_
      refine lv_iconst (v := 4) hx hb dX6_savesAreAsTaken_3 (by decide) ?_
      refine lv_icmp_ge (tgt := 27) hx hb dX6_savesAreAsTaken_4 (by decide) (fun c => ?_) (fun c => ?_)
      · have hv := hv.1 c
        refine lv_iconst (v := 1) hx hb dX6_savesAreAsTaken_27 (by decide) ?_
        exact G_zret hC hr hk hE rfl hv dX6_savesAreAsTaken_28
      · have hv := hv.2 c
        refine lv_aload_n hx hb dX6_savesAreAsTaken_7 rfl (lv_at hl 0 rfl) ?_
        refine G_get (v := .ref (a 25)) hC hE (fun _ h => List.mem_cons_of_mem _ (List.mem_append_left _ (List.mem_append_left _ (List.mem_append_right _ h)))) f_game rfl 4 (by decide) (hts (.fieldLink RX6 34 "SeedBattle" "copies" "[LSeedBattle$Copy;") (List.mem_of_getElem? (i := 1) rfl)) rfl dX6_savesAreAsTaken_8 ?_
        refine lv_iload_n hx hb dX6_savesAreAsTaken_11 rfl (lv_at hl 1 rfl) ?_
        have hq1 := vp_lt hv.1
        refine G_aald hC hE f_cpys (t := 4) rfl hv.1 dX6_savesAreAsTaken_12 ?_
        have hv := hv.2
        refine G_callVi hC (c_X0_isAsTaken l D cs az a (ix := (Int32.toNatClampNeg v1)) hq1  g _ hv) (cwV 0 hts gX6_savesAreAsTaken_X0_isAsTaken rfl rfl rfl (by decide +kernel) ⟨Nat.le_of_ble_eq_true rfl, Nat.le_of_ble_eq_true rfl⟩) (f_copy hq1) rfl rfl hl rfl (Nat.le_of_ble_eq_true rfl) dX6_savesAreAsTaken_13 hE (fun r3 g2 H locs hv hE => ?_)
        refine lv_if_ne (tgt := 21) hx hb dX6_savesAreAsTaken_16 (by decide) (fun c => ?_) (fun c => ?_)
        · have hv := hv.1 c
          refine lv_iinc (v := (v1 + 1)) (lv' := [(1, .int (v1 + 1)), (0, .ref (a 0))]) hx hb dX6_savesAreAsTaken_21 hl (k := 1) rfl rfl (by decide) rfl (fun ls hl => ?_)
          refine lv_goto (tgt := 2) hx hb dX6_savesAreAsTaken_24 (by decide) ?_
          exact hK2 _ _  hv _ _ _ hE (lv_sub hl [1, 0] rfl)
        · have hv := hv.2 c
          refine lv_iconst (v := 0) hx hb dX6_savesAreAsTaken_19 (by decide) ?_
          exact G_zret hC hr hk hE rfl hv dX6_savesAreAsTaken_20
  refine lv_iconst (v := 0) hx hb dX6_savesAreAsTaken_0 (by decide) ?_
  refine lv_istore_n (lv' := [(1, .int 0), (0, .ref (a 0))]) hx hb dX6_savesAreAsTaken_1 rfl hl (by decide) rfl (fun ls hl => ?_)
  exact j_2  _ _  hv _ _ _ hE (lv_sub hl [1, 0] rfl)
def J_X6_noIndexHasOwnUnits_16  (post : Int32 → St → Prop) (K2 : (Int32 × St) → Prop) (K16 : (Int32 × Nat × Int32 × St) → Prop) (v1 : Int32) (q2 : Nat) (v3 : Int32) (g : St) : Prop := (((g.2 (10 + q2)) ≤ v3 → K2 ((v1 + 1), g)) ∧ (¬ (g.2 (10 + q2)) ≤ v3 → V_X2_at q2 v3 g (fun r3 g2 => V_X6_unitOf r3 (fun r4 => V_X5_owner 0 r4 g2 (fun r6 g5 => ((¬ r6 = v1 → K16 (v1, q2, (v3 + 1), g5)) ∧ (r6 = v1 → post 0 g5)))))))
def J_X6_noIndexHasOwnUnits_2  (post : Int32 → St → Prop) (K2 : (Int32 × St) → Prop) (v1 : Int32) (g : St) : Prop := ((4 ≤ v1 → post 1 g) ∧ (¬ 4 ≤ v1 → vp_in v1 4 ∧ (lpP (fun K16 (z : Int32 × Nat × Int32 × St) => J_X6_noIndexHasOwnUnits_16 post K2 K16 z.1 z.2.1 z.2.2.1 z.2.2.2) (v1, (Int32.toNatClampNeg v1), 0, g))))
def V_X6_noIndexHasOwnUnits  (g : St) (post : Int32 → St → Prop) : Prop := lpP (fun K2 (z : Int32 × St) => J_X6_noIndexHasOwnUnits_2 post K2 z.1 z.2) (0, g)
abbrev rm_X6_noIndexHasOwnUnits : Room := { frames := 1, cells := 0, slots := 0, locals := 21 }
set_option maxHeartbeats 4000000 in
set_option maxRecDepth 100000 in
theorem c_X6_noIndexHasOwnUnits (l : Launch) (D : va_G) (cs az a : Nat → Nat)  (g : St) (post : Int32 → St → Prop) (hv : V_X6_noIndexHasOwnUnits  g post) : uMi l yX6_noIndexHasOwnUnits wsX6_noIndexHasOwnUnits rm_X6_noIndexHasOwnUnits D cs az (gW cs a) [.ref (a 0)] g post := by
  refine u_ofI (cc := cX6_noIndexHasOwnUnits) (maxL := 4) (by decide) rfl (Nat.le_of_ble_eq_true rfl) ?_
  intro p e s m args below meth c F ls hC hr hk hl hE
  have hx := hC.1.1; have hb := hC.1.2.1; have hml := hC.1.2.2.1; have hts := hC.1.2.2.2.2
  have hown : s.vm.findClass RX6 = some m.cls := hC.1.2.2.2.1
  have hl : lv_has ls 4 [(0, .ref (a 0))] := hl
  unfold V_X6_noIndexHasOwnUnits at hv
  have j_16 : ∀ (K2 : (Int32 × St) → Prop), (∀ (v1 : Int32) (g : St), K2 (v1, g) → ∀ (H : Heap) (locs : List Loc) (ls : Array Slot), uE D 52 gA (gO cs a) cs a F s g H locs → lv_has ls 4 [(0, .ref (a 0)), (1, .int v1)] → W p l e rm_X6_noIndexHasOwnUnits s m args below meth c H locs 0 0 (MQ below (va_Qi post (uB D (uW 52 gA (gO cs a) cs a)) F) args s 0 0 F) (F0 m 2 ls [])) → ∀ (v1 : Int32) (q2 : Nat) (v3 : Int32) (g : St), q2 < 4 → lpP (fun K16 (z : Int32 × Nat × Int32 × St) => J_X6_noIndexHasOwnUnits_16 post K2 K16 z.1 z.2.1 z.2.2.1 z.2.2.2) (v1, q2, v3, g) → ∀ (H : Heap) (locs : List Loc) (ls : Array Slot), uE D 52 gA (gO cs a) cs a F s g H locs → lv_has ls 4 [(0, .ref (a 0)), (1, .int v1), (2, .ref (a (28 + 2 * q2))), (3, .int v3)] → W p l e rm_X6_noIndexHasOwnUnits s m args below meth c H locs 0 0 (MQ below (va_Qi post (uB D (uW 52 gA (gO cs a) cs a)) F) args s 0 0 F) (F0 m 16 ls []) := by
    intro K2 hK2 v1 q2 v3 g hq2 hv
    obtain ⟨nn, hv⟩ := hv
    induction nn generalizing v1 q2 v3 g with
    | zero => exact False.elim hv
    | succ nn hK16 =>
      intro H locs ls hE hl
      have hv : J_X6_noIndexHasOwnUnits_16 post K2 (itP _ nn) v1 q2 v3 g := hv
      unfold J_X6_noIndexHasOwnUnits_16 at hv
      refine lv_iload_n hx hb dX6_noIndexHasOwnUnits_16 rfl (lv_at hl 3 rfl) ?_
      refine lv_aload_n hx hb dX6_noIndexHasOwnUnits_17 rfl (lv_at hl 2 rfl) ?_
      refine G_getN (v := .int (g.2 (10 + q2))) hC hE (fun _ h => List.mem_cons_of_mem _ (List.mem_append_left _ (List.mem_append_left _ (List.mem_append_left _ (List.mem_append_right _ h))))) (f_index hq2) rfl 1 (by decide) (List.mem_of_getElem? (i := 0) rfl) rfl dX6_noIndexHasOwnUnits_18 ?_
      refine lv_icmp_ge (tgt := 54) hx hb dX6_noIndexHasOwnUnits_21 (by decide) (fun c => ?_) (fun c => ?_)
      · have hv := hv.1 c
        refine lv_iinc (v := (v1 + 1)) (lv' := [(1, .int (v1 + 1)), (0, .ref (a 0)), (2, .ref (a (28 + 2 * q2))), (3, .int v3)]) hx hb dX6_noIndexHasOwnUnits_54 hl (k := 1) rfl rfl (by decide) rfl (fun ls hl => ?_)
        refine lv_goto (tgt := 2) hx hb dX6_noIndexHasOwnUnits_57 (by decide) ?_
        exact hK2 _ _  hv _ _ _ hE (lv_sub hl [1, 0] rfl)
      · have hv := hv.2 c
        refine lv_aload_n hx hb dX6_noIndexHasOwnUnits_24 rfl (lv_at hl 0 rfl) ?_
        refine G_get (v := .ref (a 1)) hC hE (fun _ h => List.mem_cons_of_mem _ (List.mem_append_left _ (List.mem_append_left _ (List.mem_append_left _ (List.mem_append_left _ (List.mem_append_right _ h)))))) f_game rfl 0 (by decide) (hts (.fieldLink RX6 10 "SeedBattle" "field" "LSeedBattle$Field;") (List.mem_of_getElem? (i := 2) rfl)) rfl dX6_noIndexHasOwnUnits_25 ?_
        refine G_getN (v := .ref (a 4)) hC hE (fun _ h => List.mem_cons_of_mem _ (List.mem_append_left _ (List.mem_append_left _ (List.mem_append_right _ h)))) (f_field (w := 0) (by decide)) rfl 1 (by decide) (List.mem_of_getElem? (i := 4) rfl) rfl dX6_noIndexHasOwnUnits_28 ?_
        refine lv_aload_n hx hb dX6_noIndexHasOwnUnits_31 rfl (lv_at hl 2 rfl) ?_
        refine lv_iload_n hx hb dX6_noIndexHasOwnUnits_32 rfl (lv_at hl 3 rfl) ?_
        refine G_callVi hC (c_X2_at l D cs az a (ix := q2) hq2 v3 g _ hv) (cwV 1 hts gX6_noIndexHasOwnUnits_X2_at rfl rfl rfl (by decide +kernel) ⟨Nat.le_of_ble_eq_true rfl, Nat.le_of_ble_eq_true rfl⟩) (f_index hq2) rfl rfl hl rfl (Nat.le_of_ble_eq_true rfl) dX6_noIndexHasOwnUnits_33 hE (fun r3 g2 H locs hv hE => ?_)
        refine G_callSs hC.1 hC.2.2.2.2.1 (c_X6_unitOf l r3 _ hv) (va_cwS 1 hts gX6_noIndexHasOwnUnits_X6_unitOf rfl rfl rfl (by decide +kernel) ⟨Nat.le_of_ble_eq_true rfl, Nat.le_of_ble_eq_true rfl⟩) rfl hl rfl (Nat.le_of_ble_eq_true rfl) dX6_noIndexHasOwnUnits_36 (Nat.zero_le _) (Nat.zero_le _) (fun r4 hv => ?_)
        refine G_callVi hC (c_X5_owner l D cs az a (w := 0) (by decide) r4 g2 _ hv) (cwV 1 hts gX6_noIndexHasOwnUnits_X5_owner rfl rfl rfl (by decide +kernel) ⟨Nat.le_of_ble_eq_true rfl, Nat.le_of_ble_eq_true rfl⟩) (f_units (w := 0) (by decide)) rfl rfl hl rfl (Nat.le_of_ble_eq_true rfl) dX6_noIndexHasOwnUnits_39 hE (fun r6 g5 H locs hv hE => ?_)
        refine lv_iload_n hx hb dX6_noIndexHasOwnUnits_42 rfl (lv_at hl 1 rfl) ?_
        refine lv_icmp_ne (tgt := 48) hx hb dX6_noIndexHasOwnUnits_43 (by decide) (fun c => ?_) (fun c => ?_)
        · have hv := hv.1 c
          refine lv_iinc (v := (v3 + 1)) (lv' := [(3, .int (v3 + 1)), (0, .ref (a 0)), (1, .int v1), (2, .ref (a (28 + 2 * q2)))]) hx hb dX6_noIndexHasOwnUnits_48 hl (k := 3) rfl rfl (by decide) rfl (fun ls hl => ?_)
          refine lv_goto (tgt := 16) hx hb dX6_noIndexHasOwnUnits_51 (by decide) ?_
          exact hK16 _ _ _ _ hq2 hv _ _ _ hE (lv_sub hl [1, 2, 3, 0] rfl)
        · have hv := hv.2 c
          refine lv_iconst (v := 0) hx hb dX6_noIndexHasOwnUnits_46 (by decide) ?_
          exact G_zret hC hr hk hE rfl hv dX6_noIndexHasOwnUnits_47
  have j_2 : ∀ (v1 : Int32) (g : St), lpP (fun K2 (z : Int32 × St) => J_X6_noIndexHasOwnUnits_2 post K2 z.1 z.2) (v1, g) → ∀ (H : Heap) (locs : List Loc) (ls : Array Slot), uE D 52 gA (gO cs a) cs a F s g H locs → lv_has ls 4 [(0, .ref (a 0)), (1, .int v1)] → W p l e rm_X6_noIndexHasOwnUnits s m args below meth c H locs 0 0 (MQ below (va_Qi post (uB D (uW 52 gA (gO cs a) cs a)) F) args s 0 0 F) (F0 m 2 ls []) := by
    intro  v1 g  hv
    obtain ⟨nn, hv⟩ := hv
    induction nn generalizing v1 g with
    | zero => exact False.elim hv
    | succ nn hK2 =>
      intro H locs ls hE hl
      have hv : J_X6_noIndexHasOwnUnits_2 post (itP _ nn) v1 g := hv
      unfold J_X6_noIndexHasOwnUnits_2 at hv
      refine lv_iload_n hx hb dX6_noIndexHasOwnUnits_2 rfl (lv_at hl 1 rfl) ?_
      refine lv_iconst (v := 4) hx hb dX6_noIndexHasOwnUnits_3 (by decide) ?_
      refine lv_icmp_ge (tgt := 60) hx hb dX6_noIndexHasOwnUnits_4 (by decide) (fun c => ?_) (fun c => ?_)
      · have hv := hv.1 c
        refine lv_iconst (v := 1) hx hb dX6_noIndexHasOwnUnits_60 (by decide) ?_
        exact G_zret hC hr hk hE rfl hv dX6_noIndexHasOwnUnits_61
      · have hv := hv.2 c
        refine lv_aload_n hx hb dX6_noIndexHasOwnUnits_7 rfl (lv_at hl 0 rfl) ?_
        refine G_get (v := .ref (a 24)) hC hE (fun _ h => List.mem_cons_of_mem _ (List.mem_append_left _ (List.mem_append_left _ (List.mem_append_left _ (List.mem_append_left _ (List.mem_append_right _ h)))))) f_game rfl 3 (by decide) (hts (.fieldLink RX6 28 "SeedBattle" "indexes" "[LSeedBattle$Index;") (List.mem_of_getElem? (i := 1) rfl)) rfl dX6_noIndexHasOwnUnits_8 ?_
        refine lv_iload_n hx hb dX6_noIndexHasOwnUnits_11 rfl (lv_at hl 1 rfl) ?_
        have hq1 := vp_lt hv.1
        refine G_aald hC hE f_idxs (t := 3) rfl hv.1 dX6_noIndexHasOwnUnits_12 ?_
        have hv := hv.2
        refine lv_astore_n (lv' := [(2, .ref (a (28 + 2 * (Int32.toNatClampNeg v1)))), (0, .ref (a 0)), (1, .int v1)]) hx hb dX6_noIndexHasOwnUnits_13 rfl hl (by decide) rfl (fun ls hl => ?_)
        refine lv_iconst (v := 0) hx hb dX6_noIndexHasOwnUnits_14 (by decide) ?_
        refine lv_istore_n (lv' := [(3, .int 0), (2, .ref (a (28 + 2 * (Int32.toNatClampNeg v1)))), (0, .ref (a 0)), (1, .int v1)]) hx hb dX6_noIndexHasOwnUnits_15 rfl hl (by decide) rfl (fun ls hl => ?_)
        exact j_16 _ hK2 _ _ _ _ hq1 hv _ _ _ hE (lv_sub hl [2, 3, 1, 0] rfl)
  refine lv_iconst (v := 0) hx hb dX6_noIndexHasOwnUnits_0 (by decide) ?_
  refine lv_istore_n (lv' := [(1, .int 0), (0, .ref (a 0))]) hx hb dX6_noIndexHasOwnUnits_1 rfl hl (by decide) rfl (fun ls hl => ?_)
  exact j_2  _ _  hv _ _ _ hE (lv_sub hl [1, 0] rfl)
def V_X6_isSound  (g : St) (post : Int32 → St → Prop) : Prop := V_X6_unitsAreWhereReplayed g (fun r2 g1 => ((r2 = 0 → post 0 g1) ∧ (¬ r2 = 0 → V_X6_savesAreAsTaken g1 (fun r4 g3 => ((r4 = 0 → post 0 g3) ∧ (¬ r4 = 0 → V_X6_noIndexHasOwnUnits g3 (fun r6 g5 => ((r6 = 0 → post 0 g5) ∧ (¬ r6 = 0 → post 1 g5)))))))))
abbrev rm_X6_isSound : Room := { frames := 6, cells := 0, slots := 0, locals := 138 }
set_option maxHeartbeats 4000000 in
set_option maxRecDepth 100000 in
theorem c_X6_isSound (l : Launch) (D : va_G) (cs az a : Nat → Nat)  (g : St) (post : Int32 → St → Prop) (hv : V_X6_isSound  g post) : uMi l yX6_isSound wsX6_isSound rm_X6_isSound D cs az (gW cs a) [.ref (a 0)] g post := by
  refine u_ofI (cc := cX6_isSound) (maxL := 1) (by decide) rfl (Nat.le_of_ble_eq_true rfl) ?_
  intro p e s m args below meth c F ls hC hr hk hl hE
  have hx := hC.1.1; have hb := hC.1.2.1; have hml := hC.1.2.2.1; have hts := hC.1.2.2.2.2
  have hown : s.vm.findClass RX6 = some m.cls := hC.1.2.2.2.1
  have hl : lv_has ls 1 [(0, .ref (a 0))] := hl
  unfold V_X6_isSound at hv
  refine lv_aload_n hx hb dX6_isSound_0 rfl (lv_at hl 0 rfl) ?_
  refine G_callVi hC (c_X6_unitsAreWhereReplayed l D cs az a  g _ hv) (cwV 0 hts gX6_isSound_X6_unitsAreWhereReplayed rfl rfl rfl (by decide +kernel) ⟨Nat.le_of_ble_eq_true rfl, Nat.le_of_ble_eq_true rfl⟩) f_game rfl rfl hl rfl (Nat.le_of_ble_eq_true rfl) dX6_isSound_1 hE (fun r2 g1 H locs hv hE => ?_)
  refine lv_if_eq (tgt := 25) hx hb dX6_isSound_4 (by decide) (fun c => ?_) (fun c => ?_)
  · have hv := hv.1 c
    refine lv_iconst (v := 0) hx hb dX6_isSound_25 (by decide) ?_
    exact G_zret hC hr hk hE rfl hv dX6_isSound_26
  · have hv := hv.2 c
    refine lv_aload_n hx hb dX6_isSound_7 rfl (lv_at hl 0 rfl) ?_
    refine G_callVi hC (c_X6_savesAreAsTaken l D cs az a  g1 _ hv) (cwV 0 hts gX6_isSound_X6_savesAreAsTaken rfl rfl rfl (by decide +kernel) ⟨Nat.le_of_ble_eq_true rfl, Nat.le_of_ble_eq_true rfl⟩) f_game rfl rfl hl rfl (Nat.le_of_ble_eq_true rfl) dX6_isSound_8 hE (fun r4 g3 H locs hv hE => ?_)
    refine lv_if_eq (tgt := 25) hx hb dX6_isSound_11 (by decide) (fun c => ?_) (fun c => ?_)
    · have hv := hv.1 c
      refine lv_iconst (v := 0) hx hb dX6_isSound_25 (by decide) ?_
      exact G_zret hC hr hk hE rfl hv dX6_isSound_26
    · have hv := hv.2 c
      refine lv_aload_n hx hb dX6_isSound_14 rfl (lv_at hl 0 rfl) ?_
      refine G_callVi hC (c_X6_noIndexHasOwnUnits l D cs az a  g3 _ hv) (cwV 0 hts gX6_isSound_X6_noIndexHasOwnUnits rfl rfl rfl (by decide +kernel) ⟨Nat.le_of_ble_eq_true rfl, Nat.le_of_ble_eq_true rfl⟩) f_game rfl rfl hl rfl (Nat.le_of_ble_eq_true rfl) dX6_isSound_15 hE (fun r6 g5 H locs hv hE => ?_)
      refine lv_if_eq (tgt := 25) hx hb dX6_isSound_18 (by decide) (fun c => ?_) (fun c => ?_)
      · have hv := hv.1 c
        refine lv_iconst (v := 0) hx hb dX6_isSound_25 (by decide) ?_
        exact G_zret hC hr hk hE rfl hv dX6_isSound_26
      · have hv := hv.2 c
        refine lv_iconst (v := 1) hx hb dX6_isSound_21 (by decide) ?_
        refine lv_goto (tgt := 26) hx hb dX6_isSound_22 (by decide) ?_
        exact G_zret hC hr hk hE rfl hv dX6_isSound_26
def J_X6_save_50  (post : Int32 → St → Prop) (K50 : (Int32 × Int32 × St) → Prop) (v1 : Int32) (v2 : Int32) (g : St) : Prop := ((4 ≤ v2 → post v1 (sS g 2 1)) ∧ (¬ 4 ≤ v2 → vp_in v2 4 ∧ (V_X0_keepParity (Int32.toNatClampNeg v2) g (fun g6 => K50 (v1, (v2 + 1), g6)))))
def J_X6_save_4  (post : Int32 → St → Prop) (K4 : (Int32 × Int32 × St) → Prop) (v1 : Int32) (v2 : Int32) (g : St) : Prop := ((4 ≤ v2 → lpP (fun K50 (z : Int32 × Int32 × St) => J_X6_save_50 post K50 z.1 z.2.1 z.2.2) (v1, 0, g)) ∧ (¬ 4 ≤ v2 → vp_in v2 4 ∧ (vp_in v2 4 ∧ (vp_in v2 4 ∧ (V_X0_take (Int32.toNatClampNeg v2) (g.1 26 (Int32.toNatClampNeg v2)) g (fun g3 => vp_in v2 4 ∧ (K4 ((v1 + (g3.2 (20 + (Int32.toNatClampNeg v2)))), (v2 + 1), g3))))))))
def V_X6_save  (g : St) (post : Int32 → St → Prop) : Prop := lpP (fun K4 (z : Int32 × Int32 × St) => J_X6_save_4 post K4 z.1 z.2.1 z.2.2) (0, 0, g)
abbrev rm_X6_save : Room := { frames := 3, cells := 0, slots := 0, locals := 67 }
set_option maxHeartbeats 4000000 in
set_option maxRecDepth 100000 in
theorem c_X6_save (l : Launch) (D : va_G) (cs az a : Nat → Nat)  (g : St) (post : Int32 → St → Prop) (hv : V_X6_save  g post) : uMi l yX6_save wsX6_save rm_X6_save D cs az (gW cs a) [.ref (a 0)] g post := by
  refine u_ofI (cc := cX6_save) (maxL := 3) (by decide) rfl (Nat.le_of_ble_eq_true rfl) ?_
  intro p e s m args below meth c F ls hC hr hk hl hE
  have hx := hC.1.1; have hb := hC.1.2.1; have hml := hC.1.2.2.1; have hts := hC.1.2.2.2.2
  have hown : s.vm.findClass RX6 = some m.cls := hC.1.2.2.2.1
  have hl : lv_has ls 3 [(0, .ref (a 0))] := hl
  unfold V_X6_save at hv
  have j_50 : ∀ (v1 : Int32) (v2 : Int32) (g : St), lpP (fun K50 (z : Int32 × Int32 × St) => J_X6_save_50 post K50 z.1 z.2.1 z.2.2) (v1, v2, g) → ∀ (H : Heap) (locs : List Loc) (ls : Array Slot), uE D 52 gA (gO cs a) cs a F s g H locs → lv_has ls 3 [(0, .ref (a 0)), (1, .int v1), (2, .int v2)] → W p l e rm_X6_save s m args below meth c H locs 0 0 (MQ below (va_Qi post (uB D (uW 52 gA (gO cs a) cs a)) F) args s 0 0 F) (F0 m 50 ls []) := by
    intro  v1 v2 g  hv
    obtain ⟨nn, hv⟩ := hv
    induction nn generalizing v1 v2 g with
    | zero => exact False.elim hv
    | succ nn hK50 =>
      intro H locs ls hE hl
      have hv : J_X6_save_50 post (itP _ nn) v1 v2 g := hv
      unfold J_X6_save_50 at hv
      refine lv_iload_n hx hb dX6_save_50 rfl (lv_at hl 2 rfl) ?_
      refine lv_iconst (v := 4) hx hb dX6_save_51 (by decide) ?_
      refine lv_icmp_ge (tgt := 74) hx hb dX6_save_52 (by decide) (fun c => ?_) (fun c => ?_)
      · have hv := hv.1 c
        refine lv_aload_n hx hb dX6_save_74 rfl (lv_at hl 0 rfl) ?_
        refine lv_iconst (v := 1) hx hb dX6_save_75 (by decide) ?_
        refine G_put (v := 1) (ty := .boolean) hC hE (fun _ h => List.mem_cons_of_mem _ (List.mem_append_left _ (List.mem_append_left _ (List.mem_append_left _ (List.mem_append_right _ h))))) tyX6 tyX6_ok nmX6 f_game rfl 9 2 (by decide) (hts (.fieldLink RX6 213 "SeedBattle" "saved" "Z") (List.mem_of_getElem? (i := 4) rfl)) rfl (by decide +kernel) rfl rfl (Nat.le_of_ble_eq_true rfl) (p_game_saved_e) (p_game_saved_o) dX6_save_76 (fun H locs hE => ?_)
        refine lv_iload_n hx hb dX6_save_79 rfl (lv_at hl 1 rfl) ?_
        exact G_iret hC hr hk hE hv dX6_save_80
      · have hv := hv.2 c
        refine lv_aload_n hx hb dX6_save_55 rfl (lv_at hl 0 rfl) ?_
        refine G_get (v := .ref (a 25)) hC hE (fun _ h => List.mem_cons_of_mem _ (List.mem_append_left _ (List.mem_append_left _ (List.mem_append_left _ (List.mem_append_right _ h))))) f_game rfl 4 (by decide) (hts (.fieldLink RX6 34 "SeedBattle" "copies" "[LSeedBattle$Copy;") (List.mem_of_getElem? (i := 1) rfl)) rfl dX6_save_56 ?_
        refine lv_iload_n hx hb dX6_save_59 rfl (lv_at hl 2 rfl) ?_
        have hq5 := vp_lt hv.1
        refine G_aald hC hE f_cpys (t := 4) rfl hv.1 dX6_save_60 ?_
        have hv := hv.2
        refine lv_aload_n hx hb dX6_save_61 rfl (lv_at hl 0 rfl) ?_
        refine G_get (v := .ref (a 25)) hC hE (fun _ h => List.mem_cons_of_mem _ (List.mem_append_left _ (List.mem_append_left _ (List.mem_append_left _ (List.mem_append_right _ h))))) f_game rfl 4 (by decide) (hts (.fieldLink RX6 34 "SeedBattle" "copies" "[LSeedBattle$Copy;") (List.mem_of_getElem? (i := 1) rfl)) rfl dX6_save_62 ?_
        refine G_callVv hC (c_X0_keepParity l D cs az a (ix := (Int32.toNatClampNeg v2)) hq5  g _ hv) (cwV 1 hts gX6_save_X0_keepParity rfl rfl rfl (by decide +kernel) ⟨Nat.le_of_ble_eq_true rfl, Nat.le_of_ble_eq_true rfl⟩) (f_copy hq5) rfl rfl hl rfl (Nat.le_of_ble_eq_true rfl) dX6_save_65 hE (fun g6 H locs hv hE => ?_)
        refine lv_iinc (v := (v2 + 1)) (lv' := [(2, .int (v2 + 1)), (0, .ref (a 0)), (1, .int v1)]) hx hb dX6_save_68 hl (k := 2) rfl rfl (by decide) rfl (fun ls hl => ?_)
        refine lv_goto (tgt := 50) hx hb dX6_save_71 (by decide) ?_
        exact hK50 _ _ _  hv _ _ _ hE (lv_sub hl [1, 2, 0] rfl)
  have j_4 : ∀ (v1 : Int32) (v2 : Int32) (g : St), lpP (fun K4 (z : Int32 × Int32 × St) => J_X6_save_4 post K4 z.1 z.2.1 z.2.2) (v1, v2, g) → ∀ (H : Heap) (locs : List Loc) (ls : Array Slot), uE D 52 gA (gO cs a) cs a F s g H locs → lv_has ls 3 [(0, .ref (a 0)), (1, .int v1), (2, .int v2)] → W p l e rm_X6_save s m args below meth c H locs 0 0 (MQ below (va_Qi post (uB D (uW 52 gA (gO cs a) cs a)) F) args s 0 0 F) (F0 m 4 ls []) := by
    intro  v1 v2 g  hv
    obtain ⟨nn, hv⟩ := hv
    induction nn generalizing v1 v2 g with
    | zero => exact False.elim hv
    | succ nn hK4 =>
      intro H locs ls hE hl
      have hv : J_X6_save_4 post (itP _ nn) v1 v2 g := hv
      unfold J_X6_save_4 at hv
      refine lv_iload_n hx hb dX6_save_4 rfl (lv_at hl 2 rfl) ?_
      refine lv_iconst (v := 4) hx hb dX6_save_5 (by decide) ?_
      refine lv_icmp_ge (tgt := 48) hx hb dX6_save_6 (by decide) (fun c => ?_) (fun c => ?_)
      · have hv := hv.1 c
        refine lv_iconst (v := 0) hx hb dX6_save_48 (by decide) ?_
        refine lv_istore_n (lv' := [(2, .int 0), (0, .ref (a 0)), (1, .int v1)]) hx hb dX6_save_49 rfl hl (by decide) rfl (fun ls hl => ?_)
        exact j_50  _ _ _  hv _ _ _ hE (lv_sub hl [1, 2, 0] rfl)
      · have hv := hv.2 c
        refine lv_aload_n hx hb dX6_save_9 rfl (lv_at hl 0 rfl) ?_
        refine G_get (v := .ref (a 25)) hC hE (fun _ h => List.mem_cons_of_mem _ (List.mem_append_left _ (List.mem_append_left _ (List.mem_append_left _ (List.mem_append_right _ h))))) f_game rfl 4 (by decide) (hts (.fieldLink RX6 34 "SeedBattle" "copies" "[LSeedBattle$Copy;") (List.mem_of_getElem? (i := 1) rfl)) rfl dX6_save_10 ?_
        refine lv_iload_n hx hb dX6_save_13 rfl (lv_at hl 2 rfl) ?_
        have hq1 := vp_lt hv.1
        refine G_aald hC hE f_cpys (t := 4) rfl hv.1 dX6_save_14 ?_
        have hv := hv.2
        refine lv_aload_n hx hb dX6_save_15 rfl (lv_at hl 0 rfl) ?_
        refine G_get (v := .ref (a 24)) hC hE (fun _ h => List.mem_cons_of_mem _ (List.mem_append_left _ (List.mem_append_left _ (List.mem_append_left _ (List.mem_append_right _ h))))) f_game rfl 3 (by decide) (hts (.fieldLink RX6 28 "SeedBattle" "indexes" "[LSeedBattle$Index;") (List.mem_of_getElem? (i := 2) rfl)) rfl dX6_save_16 ?_
        refine lv_iload_n hx hb dX6_save_19 rfl (lv_at hl 2 rfl) ?_
        have hq2 := vp_lt hv.1
        refine G_aald hC hE f_idxs (t := 3) rfl hv.1 dX6_save_20 ?_
        have hv := hv.2
        refine lv_aload_n hx hb dX6_save_21 rfl (lv_at hl 0 rfl) ?_
        refine G_get (v := .ref (a 26)) hC hE (fun _ h => List.mem_cons_of_mem _ (List.mem_append_left _ (List.mem_append_left _ (List.mem_append_left _ (List.mem_append_right _ h))))) f_game rfl 5 (by decide) (hts (.fieldLink RX6 38 "SeedBattle" "treaties" "[I") (List.mem_of_getElem? (i := 3) rfl)) rfl dX6_save_22 ?_
        refine lv_iload_n hx hb dX6_save_25 rfl (lv_at hl 2 rfl) ?_
        refine G_iald hC hE f_treaties hv.1 dX6_save_26 ?_
        have hv := hv.2
        refine G_callVv hC (c_X0_take l D cs az a (ix := (Int32.toNatClampNeg v2)) hq1 (g.1 26 (Int32.toNatClampNeg v2)) g _ hv) (cwV 2 hts gX6_save_X0_take rfl rfl rfl (by decide +kernel) ⟨Nat.le_of_ble_eq_true rfl, Nat.le_of_ble_eq_true rfl⟩) (f_copy hq1) rfl rfl hl rfl (Nat.le_of_ble_eq_true rfl) dX6_save_27 hE (fun g3 H locs hv hE => ?_)
        refine lv_iload_n hx hb dX6_save_30 rfl (lv_at hl 1 rfl) ?_
        refine lv_aload_n hx hb dX6_save_31 rfl (lv_at hl 0 rfl) ?_
        refine G_get (v := .ref (a 25)) hC hE (fun _ h => List.mem_cons_of_mem _ (List.mem_append_left _ (List.mem_append_left _ (List.mem_append_left _ (List.mem_append_right _ h))))) f_game rfl 4 (by decide) (hts (.fieldLink RX6 34 "SeedBattle" "copies" "[LSeedBattle$Copy;") (List.mem_of_getElem? (i := 1) rfl)) rfl dX6_save_32 ?_
        refine lv_iload_n hx hb dX6_save_35 rfl (lv_at hl 2 rfl) ?_
        have hq4 := vp_lt hv.1
        refine G_aald hC hE f_cpys (t := 4) rfl hv.1 dX6_save_36 ?_
        have hv := hv.2
        refine G_getN (v := .int (g3.2 (20 + (Int32.toNatClampNeg v2)))) hC hE (fun _ h => List.mem_cons_of_mem _ (List.mem_append_left _ (List.mem_append_left _ (List.mem_append_right _ h)))) (f_copy hq4) rfl 3 (by decide) (List.mem_of_getElem? (i := 1) rfl) rfl dX6_save_37 ?_
        refine lv_iadd hx hb dX6_save_40 ?_
        refine lv_istore_n (lv' := [(1, .int (v1 + (g3.2 (20 + (Int32.toNatClampNeg v2))))), (0, .ref (a 0)), (2, .int v2)]) hx hb dX6_save_41 rfl hl (by decide) rfl (fun ls hl => ?_)
        refine lv_iinc (v := (v2 + 1)) (lv' := [(2, .int (v2 + 1)), (1, .int (v1 + (g3.2 (20 + (Int32.toNatClampNeg v2))))), (0, .ref (a 0))]) hx hb dX6_save_42 hl (k := 2) rfl rfl (by decide) rfl (fun ls hl => ?_)
        refine lv_goto (tgt := 4) hx hb dX6_save_45 (by decide) ?_
        exact hK4 _ _ _  hv _ _ _ hE (lv_sub hl [2, 1, 0] rfl)
  refine lv_iconst (v := 0) hx hb dX6_save_0 (by decide) ?_
  refine lv_istore_n (lv' := [(1, .int 0), (0, .ref (a 0))]) hx hb dX6_save_1 rfl hl (by decide) rfl (fun ls hl => ?_)
  refine lv_iconst (v := 0) hx hb dX6_save_2 (by decide) ?_
  refine lv_istore_n (lv' := [(2, .int 0), (1, .int 0), (0, .ref (a 0))]) hx hb dX6_save_3 rfl hl (by decide) rfl (fun ls hl => ?_)
  exact j_4  _ _ _  hv _ _ _ hE (lv_sub hl [2, 1, 0] rfl)
def J_X6_checksum_4  (post : Int64 → St → Prop) (K4 : (Int64 × Int32 × St) → Prop) (v1 : Int64) (v3 : Int32) (g : St) : Prop := (((g.2 3) ≤ v3 → post v1 g) ∧ (¬ (g.2 3) ≤ v3 → V_X5_place 0 v3 g (fun r2 g1 => K4 (((31 * v1) + (Int32.toInt64 r2)), (v3 + 1), g1))))
def V_X6_checksum  (g : St) (post : Int64 → St → Prop) : Prop := lpP (fun K4 (z : Int64 × Int32 × St) => J_X6_checksum_4 post K4 z.1 z.2.1 z.2.2) (0, 0, g)
abbrev rm_X6_checksum : Room := { frames := 1, cells := 0, slots := 0, locals := 21 }
set_option maxHeartbeats 4000000 in
set_option maxRecDepth 100000 in
theorem c_X6_checksum (l : Launch) (D : va_G) (cs az a : Nat → Nat)  (g : St) (post : Int64 → St → Prop) (hv : V_X6_checksum  g post) : uMl l yX6_checksum wsX6_checksum rm_X6_checksum D cs az (gW cs a) [.ref (a 0)] g post := by
  refine u_ofL (cc := cX6_checksum) (maxL := 4) (by decide) rfl (Nat.le_of_ble_eq_true rfl) ?_
  intro p e s m args below meth c F ls hC hr hk hl hE
  have hx := hC.1.1; have hb := hC.1.2.1; have hml := hC.1.2.2.1; have hts := hC.1.2.2.2.2
  have hown : s.vm.findClass RX6 = some m.cls := hC.1.2.2.2.1
  have hl : lv_has ls 4 [(0, .ref (a 0))] := hl
  unfold V_X6_checksum at hv
  have j_4 : ∀ (v1 : Int64) (v3 : Int32) (g : St), lpP (fun K4 (z : Int64 × Int32 × St) => J_X6_checksum_4 post K4 z.1 z.2.1 z.2.2) (v1, v3, g) → ∀ (H : Heap) (locs : List Loc) (ls : Array Slot), uE D 52 gA (gO cs a) cs a F s g H locs → lv_has ls 4 [(0, .ref (a 0)), (1, .long v1), (3, .int v3)] → W p l e rm_X6_checksum s m args below meth c H locs 0 0 (MQ below (va_Ql post (uB D (uW 52 gA (gO cs a) cs a)) F) args s 0 0 F) (F0 m 4 ls []) := by
    intro  v1 v3 g  hv
    obtain ⟨nn, hv⟩ := hv
    induction nn generalizing v1 v3 g with
    | zero => exact False.elim hv
    | succ nn hK4 =>
      intro H locs ls hE hl
      have hv : J_X6_checksum_4 post (itP _ nn) v1 v3 g := hv
      unfold J_X6_checksum_4 at hv
      refine lv_iload_n hx hb dX6_checksum_4 rfl (lv_at hl 2 rfl) ?_
      refine lv_aload_n hx hb dX6_checksum_5 rfl (lv_at hl 0 rfl) ?_
      refine G_get (v := .ref (a 1)) hC hE (fun _ h => List.mem_cons_of_mem _ (List.mem_append_left _ (List.mem_append_left _ (List.mem_append_left _ (List.mem_append_right _ h))))) f_game rfl 0 (by decide) (hts (.fieldLink RX6 10 "SeedBattle" "field" "LSeedBattle$Field;") (List.mem_of_getElem? (i := 1) rfl)) rfl dX6_checksum_6 ?_
      refine G_getN (v := .ref (a 4)) hC hE (fun _ h => List.mem_cons_of_mem _ (List.mem_append_left _ (List.mem_append_left _ (List.mem_append_right _ h)))) (f_field (w := 0) (by decide)) rfl 1 (by decide) (List.mem_of_getElem? (i := 4) rfl) rfl dX6_checksum_9 ?_
      refine G_getN (v := .int (g.2 3)) hC hE (fun _ h => List.mem_cons_of_mem _ (List.mem_append_left _ (List.mem_append_right _ h))) (f_units (w := 0) (by decide)) rfl 4 (by decide) (List.mem_of_getElem? (i := 5) rfl) rfl dX6_checksum_12 ?_
      refine lv_icmp_ge (tgt := 43) hx hb dX6_checksum_15 (by decide) (fun c => ?_) (fun c => ?_)
      · have hv := hv.1 c
        refine lv_lload_n hx hb dX6_checksum_43 rfl (lv_at hl 1 rfl) ?_
        exact G_lret hC hr hk hE hv dX6_checksum_44
      · have hv := hv.2 c
        refine lv_ldc2 (v := 31) hx hb hown (hts (.constantLong RX6 265 (31)) (List.mem_of_getElem? (i := 2) rfl)) dX6_checksum_18 ?_
        refine lv_lload_n hx hb dX6_checksum_21 rfl (lv_at hl 1 rfl) ?_
        refine lv_lmul hx hb dX6_checksum_22 ?_
        refine lv_aload_n hx hb dX6_checksum_23 rfl (lv_at hl 0 rfl) ?_
        refine G_get (v := .ref (a 1)) hC hE (fun _ h => List.mem_cons_of_mem _ (List.mem_append_left _ (List.mem_append_left _ (List.mem_append_left _ (List.mem_append_right _ h))))) f_game rfl 0 (by decide) (hts (.fieldLink RX6 10 "SeedBattle" "field" "LSeedBattle$Field;") (List.mem_of_getElem? (i := 1) rfl)) rfl dX6_checksum_24 ?_
        refine G_getN (v := .ref (a 4)) hC hE (fun _ h => List.mem_cons_of_mem _ (List.mem_append_left _ (List.mem_append_left _ (List.mem_append_right _ h)))) (f_field (w := 0) (by decide)) rfl 1 (by decide) (List.mem_of_getElem? (i := 4) rfl) rfl dX6_checksum_27 ?_
        refine lv_iload_n hx hb dX6_checksum_30 rfl (lv_at hl 2 rfl) ?_
        refine G_callVi hC (c_X5_place l D cs az a (w := 0) (by decide) v3 g _ hv) (cwV 1 hts gX6_checksum_X5_place rfl rfl rfl (by decide +kernel) ⟨Nat.le_of_ble_eq_true rfl, Nat.le_of_ble_eq_true rfl⟩) (f_units (w := 0) (by decide)) rfl rfl hl rfl (Nat.le_of_ble_eq_true rfl) dX6_checksum_31 hE (fun r2 g1 H locs hv hE => ?_)
        refine lv_i2l (v := (Int32.toInt64 r2)) hx hb dX6_checksum_34 rfl ?_
        refine lv_ladd hx hb dX6_checksum_35 ?_
        refine lv_lstore_n (lv' := [(1, .long ((31 * v1) + (Int32.toInt64 r2))), (0, .ref (a 0)), (3, .int v3)]) hx hb dX6_checksum_36 rfl hl (by decide) rfl (fun ls hl => ?_)
        refine lv_iinc (v := (v3 + 1)) (lv' := [(3, .int (v3 + 1)), (1, .long ((31 * v1) + (Int32.toInt64 r2))), (0, .ref (a 0))]) hx hb dX6_checksum_37 hl (k := 2) rfl rfl (by decide) rfl (fun ls hl => ?_)
        refine lv_goto (tgt := 4) hx hb dX6_checksum_40 (by decide) ?_
        exact hK4 _ _ _  hv _ _ _ hE (lv_sub hl [2, 1, 0] rfl)
  refine lv_lconst (v := 0) hx hb dX6_checksum_0 (by decide) ?_
  refine lv_lstore_n (lv' := [(1, .long 0), (0, .ref (a 0))]) hx hb dX6_checksum_1 rfl hl (by decide) rfl (fun ls hl => ?_)
  refine lv_iconst (v := 0) hx hb dX6_checksum_2 (by decide) ?_
  refine lv_istore_n (lv' := [(3, .int 0), (1, .long 0), (0, .ref (a 0))]) hx hb dX6_checksum_3 rfl hl (by decide) rfl (fun ls hl => ?_)
  exact j_4  _ _ _  hv _ _ _ hE (lv_sub hl [2, 1, 0] rfl)
def V_X6_done  (g : St) (post : Int32 → St → Prop) : Prop := post (g.2 1) g
abbrev rm_X6_done : Room := { frames := 0, cells := 0, slots := 0, locals := 0 }
set_option maxHeartbeats 4000000 in
set_option maxRecDepth 100000 in
theorem c_X6_done (l : Launch) (D : va_G) (cs az a : Nat → Nat)  (g : St) (post : Int32 → St → Prop) (hv : V_X6_done  g post) : uMi l yX6_done wsX6_done rm_X6_done D cs az (gW cs a) [.ref (a 0)] g post := by
  refine u_ofI (cc := cX6_done) (maxL := 1) (by decide) rfl (Nat.le_of_ble_eq_true rfl) ?_
  intro p e s m args below meth c F ls hC hr hk hl hE
  have hx := hC.1.1; have hb := hC.1.2.1; have hml := hC.1.2.2.1; have hts := hC.1.2.2.2.2
  have hown : s.vm.findClass RX6 = some m.cls := hC.1.2.2.2.1
  have hl : lv_has ls 1 [(0, .ref (a 0))] := hl
  unfold V_X6_done at hv
  refine lv_aload_n hx hb dX6_done_0 rfl (lv_at hl 0 rfl) ?_
  refine G_get (v := .int (g.2 1)) hC hE (fun _ h => List.mem_cons_of_mem _ (List.mem_append_right _ h)) f_game rfl 8 (by decide) (hts (.fieldLink RX6 108 "SeedBattle" "turnsDone" "I") (List.mem_of_getElem? (i := 1) rfl)) rfl dX6_done_1 ?_
  exact G_iret hC hr hk hE hv dX6_done_4
def V_X6_setSeed (x1 : Int32) (g : St) (post : Int32 → St → Prop) (px : String → St → Prop) : Prop := (((g.2 3) ≤ 0 → V_X3_grow 0 x1 (sS g 0 x1) (fun g1 => post (g.2 0) g1)) ∧ (¬ (g.2 3) ≤ 0 → px "java/lang/IllegalStateException" g))
abbrev rm_X6_setSeed : Room := { frames := 6, cells := 4, slots := 24, locals := 108 }
set_option maxHeartbeats 4000000 in
set_option maxRecDepth 100000 in
theorem c_X6_setSeed (l : Launch) (hfl : l.flags = flags0) (D : va_G) (cs az a : Nat → Nat) (x1 : Int32) (g : St) (post : Int32 → St → Prop) (px : String → St → Prop) (hv : V_X6_setSeed x1 g post px) : uTi l yX6_setSeed wsX6_setSeed rm_X6_setSeed D cs az (gW cs a) [.ref (a 0), .int x1] g 4 24 post px := by
  refine u_ofTi (cc := cX6_setSeed) (maxL := 3) (by decide) rfl (Nat.le_of_ble_eq_true rfl) ?_
  intro p e s m args below meth c F ls hC hx0 hr hk hl hE
  have hx := hC.1.1; have hb := hC.1.2.1; have hml := hC.1.2.2.1; have hts := hC.1.2.2.2.2
  have hown : s.vm.findClass RX6 = some m.cls := hC.1.2.2.2.1
  have hl : lv_has ls 3 [(0, .ref (a 0)), (1, .int x1)] := hl
  unfold V_X6_setSeed at hv
  refine lv_aload_n hx hb dX6_setSeed_0 rfl (lv_at hl 0 rfl) ?_
  refine G_get (v := .ref (a 1)) hC hE (fun _ h => List.mem_cons_of_mem _ (List.mem_append_left _ (List.mem_append_left _ (List.mem_append_left _ (List.mem_append_left _ (List.mem_append_left _ (List.mem_append_left _ (List.mem_append_right _ h)))))))) f_game rfl 0 (by decide) (hts (.fieldLink RX6 10 "SeedBattle" "field" "LSeedBattle$Field;") (List.mem_of_getElem? (i := 3) rfl)) rfl dX6_setSeed_1 ?_
  refine G_getN (v := .ref (a 4)) hC hE (fun _ h => List.mem_cons_of_mem _ (List.mem_append_left _ (List.mem_append_left _ (List.mem_append_left _ (List.mem_append_left _ (List.mem_append_left _ (List.mem_append_right _ h))))))) (f_field (w := 0) (by decide)) rfl 1 (by decide) (List.mem_of_getElem? (i := 4) rfl) rfl dX6_setSeed_4 ?_
  refine G_getN (v := .int (g.2 3)) hC hE (fun _ h => List.mem_cons_of_mem _ (List.mem_append_left _ (List.mem_append_left _ (List.mem_append_left _ (List.mem_append_left _ (List.mem_append_right _ h)))))) (f_units (w := 0) (by decide)) rfl 4 (by decide) (List.mem_of_getElem? (i := 5) rfl) rfl dX6_setSeed_7 ?_
  refine lv_if_le (tgt := 23) hx hb dX6_setSeed_10 (by decide) (fun c => ?_) (fun c => ?_)
  · have hv := hv.1 c
    refine lv_aload_n hx hb dX6_setSeed_23 rfl (lv_at hl 0 rfl) ?_
    refine G_get (v := .int (g.2 0)) hC hE (fun _ h => List.mem_cons_of_mem _ (List.mem_append_left _ (List.mem_append_left _ (List.mem_append_left _ (List.mem_append_left _ (List.mem_append_left _ (List.mem_append_left _ (List.mem_append_right _ h)))))))) f_game rfl 7 (by decide) (hts (.fieldLink RX6 74 "SeedBattle" "seedNow" "I") (List.mem_of_getElem? (i := 4) rfl)) rfl dX6_setSeed_24 ?_
    refine lv_istore_n (lv' := [(2, .int (g.2 0)), (0, .ref (a 0)), (1, .int x1)]) hx hb dX6_setSeed_27 rfl hl (by decide) rfl (fun ls hl => ?_)
    refine lv_aload_n hx hb dX6_setSeed_28 rfl (lv_at hl 1 rfl) ?_
    refine lv_iload_n hx hb dX6_setSeed_29 rfl (lv_at hl 2 rfl) ?_
    refine G_put (v := x1) (ty := .int) hC hE (fun _ h => List.mem_cons_of_mem _ (List.mem_append_left _ (List.mem_append_left _ (List.mem_append_left _ (List.mem_append_left _ (List.mem_append_left _ (List.mem_append_left _ (List.mem_append_right _ h)))))))) tyX6 tyX6_ok nmX6 f_game rfl 7 0 (by decide) (hts (.fieldLink RX6 74 "SeedBattle" "seedNow" "I") (List.mem_of_getElem? (i := 4) rfl)) rfl (by decide +kernel) rfl rfl (Nat.le_of_ble_eq_true rfl) (p_game_seedNow_e) (p_game_seedNow_o) dX6_setSeed_30 (fun H locs hE => ?_)
    refine lv_aload_n hx hb dX6_setSeed_33 rfl (lv_at hl 1 rfl) ?_
    refine G_get (v := .ref (a 1)) hC hE (fun _ h => List.mem_cons_of_mem _ (List.mem_append_left _ (List.mem_append_left _ (List.mem_append_left _ (List.mem_append_left _ (List.mem_append_left _ (List.mem_append_left _ (List.mem_append_right _ h)))))))) f_game rfl 0 (by decide) (hts (.fieldLink RX6 10 "SeedBattle" "field" "LSeedBattle$Field;") (List.mem_of_getElem? (i := 3) rfl)) rfl dX6_setSeed_34 ?_
    refine G_getN (v := .ref (a 2)) hC hE (fun _ h => List.mem_cons_of_mem _ (List.mem_append_left _ (List.mem_append_left _ (List.mem_append_left _ (List.mem_append_left _ (List.mem_append_left _ (List.mem_append_right _ h))))))) (f_field (w := 0) (by decide)) rfl 0 (by decide) (List.mem_of_getElem? (i := 3) rfl) rfl dX6_setSeed_37 ?_
    refine lv_iload_n hx hb dX6_setSeed_40 rfl (lv_at hl 2 rfl) ?_
    refine T_callVv hC (c_X3_grow l D cs az a (w := 0) (by decide) x1 (sS g 0 x1) _ hv) (cwV 1 hts gX6_setSeed_X3_grow rfl rfl rfl (by decide +kernel) ⟨Nat.le_of_ble_eq_true rfl, Nat.le_of_ble_eq_true rfl⟩) (f_land (w := 0) (by decide)) rfl rfl hl rfl (Nat.le_of_ble_eq_true rfl) dX6_setSeed_41 hE (Nat.le_of_ble_eq_true rfl) (Nat.le_of_ble_eq_true rfl) (fun g1 H locs hv hE => ?_)
    refine lv_iload_n hx hb dX6_setSeed_44 rfl (lv_at hl 0 rfl) ?_
    exact T_zret hC hr hk hE rfl hv dX6_setSeed_45 (Nat.le_of_ble_eq_true rfl) (Nat.le_of_ble_eq_true rfl)
  · have hv := hv.2 c
    exact T_throw (px := px) hfl hC hx0 hk hE hl (cls := "java/lang/IllegalStateException") (text := "there is a unit") (by decide +kernel) (hts (.classLink RX6 67 "java/lang/IllegalStateException") (List.mem_of_getElem? (i := 1) rfl)) (hts (.initialized "java/lang/IllegalStateException") (List.mem_of_getElem? (i := 2) rfl)) (by decide +kernel) (fun _ h => List.mem_cons_of_mem _ (List.mem_append_left _ (List.mem_append_right _ h))) (by decide +kernel) (by decide +kernel) dX6_setSeed_13 dX6_setSeed_16 dX6_setSeed_17 dX6_setSeed_19 dX6_setSeed_22 (Nat.le_of_ble_eq_true rfl) (Nat.le_of_ble_eq_true rfl) (Nat.le_of_ble_eq_true rfl) (Nat.le_of_ble_eq_true rfl) hv (Nat.le_of_ble_eq_true rfl) (Nat.le_of_ble_eq_true rfl)
def V_X6_ground (x1 : Int32) (g : St) (post : Int32 → St → Prop) (px : String → St → Prop) : Prop := V_X6_requireCell x1 g (fun g1 => V_X3_at 0 x1 g1 (fun r3 g2 => (narrow .char (.int r3) = .int r3) ∧ post r3 g2)) px
abbrev rm_X6_ground : Room := { frames := 7, cells := 4, slots := 24, locals := 110 }
set_option maxHeartbeats 4000000 in
set_option maxRecDepth 100000 in
theorem c_X6_ground (l : Launch) (hfl : l.flags = flags0) (D : va_G) (cs az a : Nat → Nat) (x1 : Int32) (g : St) (post : Int32 → St → Prop) (px : String → St → Prop) (hv : V_X6_ground x1 g post px) : uTi l yX6_ground wsX6_ground rm_X6_ground D cs az (gW cs a) [.ref (a 0), .int x1] g 4 24 post px := by
  refine u_ofTi (cc := cX6_ground) (maxL := 2) (by decide) rfl (Nat.le_of_ble_eq_true rfl) ?_
  intro p e s m args below meth c F ls hC hx0 hr hk hl hE
  have hx := hC.1.1; have hb := hC.1.2.1; have hml := hC.1.2.2.1; have hts := hC.1.2.2.2.2
  have hown : s.vm.findClass RX6 = some m.cls := hC.1.2.2.2.1
  have hl : lv_has ls 2 [(0, .ref (a 0)), (1, .int x1)] := hl
  unfold V_X6_ground at hv
  refine lv_iload_n hx hb dX6_ground_0 rfl (lv_at hl 1 rfl) ?_
  refine T_callSTv hC hx0 hk (c_X6_requireCell l hfl D cs az a x1 g _ _ hv) (cwS 1 hts gX6_ground_X6_requireCell rfl rfl rfl (by decide +kernel) ⟨Nat.le_of_ble_eq_true rfl, Nat.le_of_ble_eq_true rfl⟩) rfl hl rfl (Nat.le_of_ble_eq_true rfl) dX6_ground_1 hE (Nat.le_of_ble_eq_true rfl) (Nat.le_of_ble_eq_true rfl) (Nat.le_of_ble_eq_true rfl) (Nat.le_of_ble_eq_true rfl) (fun g1 H locs hv hE => ?_)
  refine W.widen (k := 1) (n := 6) (Nat.le_of_ble_eq_true rfl) (Nat.le_of_ble_eq_true rfl) ?_
  refine lv_aload_n hx hb dX6_ground_4 rfl (lv_at hl 0 rfl) ?_
  refine G_get (v := .ref (a 1)) hC hE (fun _ h => List.mem_cons_of_mem _ (List.mem_append_left _ (List.mem_append_left _ (List.mem_append_left _ (List.mem_append_left _ (List.mem_append_right _ h)))))) f_game rfl 0 (by decide) (hts (.fieldLink RX6 10 "SeedBattle" "field" "LSeedBattle$Field;") (List.mem_of_getElem? (i := 1) rfl)) rfl dX6_ground_5 ?_
  refine G_getN (v := .ref (a 2)) hC hE (fun _ h => List.mem_cons_of_mem _ (List.mem_append_left _ (List.mem_append_left _ (List.mem_append_left _ (List.mem_append_right _ h))))) (f_field (w := 0) (by decide)) rfl 0 (by decide) (List.mem_of_getElem? (i := 3) rfl) rfl dX6_ground_8 ?_
  refine lv_iload_n hx hb dX6_ground_11 rfl (lv_at hl 1 rfl) ?_
  refine T_callVi hC (c_X3_at l D cs az a (w := 0) (by decide) x1 g1 _ hv) (cwV 1 hts gX6_ground_X3_at rfl rfl rfl (by decide +kernel) ⟨Nat.le_of_ble_eq_true rfl, Nat.le_of_ble_eq_true rfl⟩) (f_land (w := 0) (by decide)) rfl rfl hl rfl (Nat.le_of_ble_eq_true rfl) dX6_ground_12 hE (Nat.le_of_ble_eq_true rfl) (Nat.le_of_ble_eq_true rfl) (fun r3 g2 H locs hv hE => ?_)
  exact T_zret hC hr hk hE hv.1 hv.2 dX6_ground_15 (Nat.le_of_ble_eq_true rfl) (Nat.le_of_ble_eq_true rfl)
def J_X6_addUnit_94 (x1 : Int32) (x2 : Int32) (x3 : Int32) (post : Int32 → St → Prop) (px : String → St → Prop)   (g : St) : Prop := px "java/lang/IllegalStateException" g
def J_X6_addUnit_62 (x1 : Int32) (x2 : Int32) (x3 : Int32) (post : Int32 → St → Prop) (px : String → St → Prop)   (g : St) : Prop := px "java/lang/UnsupportedOperationException" g
def V_X6_addUnit (x1 : Int32) (x2 : Int32) (x3 : Int32) (g : St) (post : Int32 → St → Prop) (px : String → St → Prop) : Prop := V_X6_requirePlayer x1 g (fun g1 => V_X6_requireCell x3 g1 (fun g2 => V_J0_indexOf_0f7a4 1 x2 (fun r3 => ((0 ≤ r3 → V_X3_at 0 x3 g2 (fun r5 g4 => ((r5 = 120 → J_X6_addUnit_62 x1 x2 x3 post px g4) ∧ (¬ r5 = 120 → V_X5_on 0 x3 g4 (fun r7 g6 => ((r7 = (-1) → ((24 ≤ (g6.2 3) → J_X6_addUnit_94 x1 x2 x3 post px g6) ∧ (¬ 24 ≤ (g6.2 3) → (((g6.2 1) ≤ 0 → V_X5_put 0 x1 r3 x3 g6 (fun r9 g8 => post r9 g8)) ∧ (¬ (g6.2 1) ≤ 0 → J_X6_addUnit_94 x1 x2 x3 post px g6))))) ∧ (¬ r7 = (-1) → J_X6_addUnit_62 x1 x2 x3 post px g6))))))) ∧ (¬ 0 ≤ r3 → px "java/lang/IllegalArgumentException" g2)))) px) px
abbrev rm_X6_addUnit : Room := { frames := 7, cells := 4, slots := 24, locals := 110 }
set_option maxHeartbeats 4000000 in
set_option maxRecDepth 100000 in
theorem c_X6_addUnit (l : Launch) (hfl : l.flags = flags0) (D : va_G) (cs az a : Nat → Nat) (x1 : Int32) (x2 : Int32) (x3 : Int32) (g : St) (post : Int32 → St → Prop) (px : String → St → Prop) (hv : V_X6_addUnit x1 x2 x3 g post px) : uTi l yX6_addUnit wsX6_addUnit rm_X6_addUnit D cs az (gW cs a) [.ref (a 0), .int x1, .int x2, .int x3] g 4 24 post px := by
  refine u_ofTi (cc := cX6_addUnit) (maxL := 5) (by decide) rfl (Nat.le_of_ble_eq_true rfl) ?_
  intro p e s m args below meth c F ls hC hx0 hr hk hl hE
  have hx := hC.1.1; have hb := hC.1.2.1; have hml := hC.1.2.2.1; have hts := hC.1.2.2.2.2
  have hown : s.vm.findClass RX6 = some m.cls := hC.1.2.2.2.1
  have hl : lv_has ls 5 [(0, .ref (a 0)), (1, .int x1), (2, .int x2), (3, .int x3)] := hl
  unfold V_X6_addUnit at hv
  have j_94 : ∀  (g : St), J_X6_addUnit_94 x1 x2 x3 post px g → ∀ (H : Heap) (locs : List Loc) (ls : Array Slot), uE D 52 gA (gO cs a) cs a F s g H locs → lv_has ls 5 [] → W p l e rm_X6_addUnit s m args below meth c H locs 2 12 (vx_MQ below (va_Qi post (uB D (uW 52 gA (gO cs a) cs a)) F) (uX9 D (uW 52 gA (gO cs a) cs a) px F) args s 4 24 F) (F0 m 94 ls []) := by
    intro  g  hv
    intro H locs ls hE hl
    unfold J_X6_addUnit_94 at hv
    exact T_throw (px := px) hfl hC hx0 hk hE hl (cls := "java/lang/IllegalStateException") (text := "no more units, or a turn was done") (by decide +kernel) (hts (.classLink RX6 67 "java/lang/IllegalStateException") (List.mem_of_getElem? (i := 5) rfl)) (hts (.initialized "java/lang/IllegalStateException") (List.mem_of_getElem? (i := 6) rfl)) (by decide +kernel) (fun _ h => List.mem_cons_of_mem _ (List.mem_append_left _ (List.mem_append_left _ (List.mem_append_right _ h)))) (by decide +kernel) (by decide +kernel) dX6_addUnit_94 dX6_addUnit_97 dX6_addUnit_98 dX6_addUnit_100 dX6_addUnit_103 (Nat.le_of_ble_eq_true rfl) (Nat.le_of_ble_eq_true rfl) (Nat.le_of_ble_eq_true rfl) (Nat.le_of_ble_eq_true rfl) hv (Nat.le_of_ble_eq_true rfl) (Nat.le_of_ble_eq_true rfl)
  have j_62 : ∀  (g : St), J_X6_addUnit_62 x1 x2 x3 post px g → ∀ (H : Heap) (locs : List Loc) (ls : Array Slot), uE D 52 gA (gO cs a) cs a F s g H locs → lv_has ls 5 [] → W p l e rm_X6_addUnit s m args below meth c H locs 2 12 (vx_MQ below (va_Qi post (uB D (uW 52 gA (gO cs a) cs a)) F) (uX9 D (uW 52 gA (gO cs a) cs a) px F) args s 4 24 F) (F0 m 62 ls []) := by
    intro  g  hv
    intro H locs ls hE hl
    unfold J_X6_addUnit_62 at hv
    exact T_throw (px := px) hfl hC hx0 hk hE hl (cls := "java/lang/UnsupportedOperationException") (text := "the cell is water or taken") (by decide +kernel) (hts (.classLink RX6 103 "java/lang/UnsupportedOperationException") (List.mem_of_getElem? (i := 3) rfl)) (hts (.initialized "java/lang/UnsupportedOperationException") (List.mem_of_getElem? (i := 4) rfl)) (by decide +kernel) (fun _ h => List.mem_cons_of_mem _ (List.mem_append_left _ (List.mem_append_left _ (List.mem_append_left _ (List.mem_append_right _ h))))) (by decide +kernel) (by decide +kernel) dX6_addUnit_62 dX6_addUnit_65 dX6_addUnit_66 dX6_addUnit_68 dX6_addUnit_71 (Nat.le_of_ble_eq_true rfl) (Nat.le_of_ble_eq_true rfl) (Nat.le_of_ble_eq_true rfl) (Nat.le_of_ble_eq_true rfl) hv (Nat.le_of_ble_eq_true rfl) (Nat.le_of_ble_eq_true rfl)
  refine lv_iload_n hx hb dX6_addUnit_0 rfl (lv_at hl 1 rfl) ?_
  refine T_callSTv hC hx0 hk (c_X6_requirePlayer l hfl D cs az a x1 g _ _ hv) (cwS 1 hts gX6_addUnit_X6_requirePlayer rfl rfl rfl (by decide +kernel) ⟨Nat.le_of_ble_eq_true rfl, Nat.le_of_ble_eq_true rfl⟩) rfl hl rfl (Nat.le_of_ble_eq_true rfl) dX6_addUnit_1 hE (Nat.le_of_ble_eq_true rfl) (Nat.le_of_ble_eq_true rfl) (Nat.le_of_ble_eq_true rfl) (Nat.le_of_ble_eq_true rfl) (fun g1 H locs hv hE => ?_)
  refine W.widen (k := 1) (n := 6) (Nat.le_of_ble_eq_true rfl) (Nat.le_of_ble_eq_true rfl) ?_
  refine lv_iload_n hx hb dX6_addUnit_4 rfl (lv_at hl 3 rfl) ?_
  refine T_callSTv hC hx0 hk (c_X6_requireCell l hfl D cs az a x3 g1 _ _ hv) (cwS 1 hts gX6_addUnit_X6_requireCell rfl rfl rfl (by decide +kernel) ⟨Nat.le_of_ble_eq_true rfl, Nat.le_of_ble_eq_true rfl⟩) rfl hl rfl (Nat.le_of_ble_eq_true rfl) dX6_addUnit_5 hE (Nat.le_of_ble_eq_true rfl) (Nat.le_of_ble_eq_true rfl) (Nat.le_of_ble_eq_true rfl) (Nat.le_of_ble_eq_true rfl) (fun g2 H locs hv hE => ?_)
  refine W.widen (k := 2) (n := 12) (Nat.le_of_ble_eq_true rfl) (Nat.le_of_ble_eq_true rfl) ?_
  refine va_ldcS (tx := "sat") (q := az 6) hx hb hown hC.2.2.2.sk1 dX6_addUnit_8 ?_
  refine lv_iload_n hx hb dX6_addUnit_10 rfl (lv_at hl 2 rfl) ?_
  refine G_callVk (i := 1) (by decide) hC.1 hC.2.2.1 hC.2.2.2 hE.2.2 (c_J0_indexOf_0f7a4 l az (i := 1) (by decide) x2 _ hv) (cwV 1 hts gX6_addUnit_J0_indexOf_0f7a4 rfl rfl rfl (by decide +kernel) ⟨Nat.le_of_ble_eq_true rfl, Nat.le_of_ble_eq_true rfl⟩) rfl hl rfl (Nat.le_of_ble_eq_true rfl) dX6_addUnit_11 (Nat.le_of_ble_eq_true rfl) (Nat.le_of_ble_eq_true rfl) (fun r3 hv => ?_)
  refine lv_istore (lv' := [(4, .int r3), (0, .ref (a 0)), (1, .int x1), (2, .int x2), (3, .int x3)]) hx hb dX6_addUnit_14 hl (by decide) rfl (fun ls hl => ?_)
  refine lv_iload hx hb dX6_addUnit_16 (lv_at hl 0 rfl) ?_
  refine lv_if_ge (tgt := 31) hx hb dX6_addUnit_18 (by decide) (fun c => ?_) (fun c => ?_)
  · have hv := hv.1 c
    refine lv_aload_n hx hb dX6_addUnit_31 rfl (lv_at hl 1 rfl) ?_
    refine G_get (v := .ref (a 1)) hC hE (fun _ h => List.mem_cons_of_mem _ (List.mem_append_left _ (List.mem_append_left _ (List.mem_append_left _ (List.mem_append_left _ (List.mem_append_left _ (List.mem_append_left _ (List.mem_append_left _ (List.mem_append_left _ (List.mem_append_left _ (List.mem_append_right _ h))))))))))) f_game rfl 0 (by decide) (hts (.fieldLink RX6 10 "SeedBattle" "field" "LSeedBattle$Field;") (List.mem_of_getElem? (i := 7) rfl)) rfl dX6_addUnit_32 ?_
    refine G_getN (v := .ref (a 2)) hC hE (fun _ h => List.mem_cons_of_mem _ (List.mem_append_left _ (List.mem_append_left _ (List.mem_append_left _ (List.mem_append_left _ (List.mem_append_left _ (List.mem_append_left _ (List.mem_append_left _ (List.mem_append_left _ (List.mem_append_right _ h)))))))))) (f_field (w := 0) (by decide)) rfl 0 (by decide) (List.mem_of_getElem? (i := 3) rfl) rfl dX6_addUnit_35 ?_
    refine lv_iload_n hx hb dX6_addUnit_38 rfl (lv_at hl 4 rfl) ?_
    refine T_callVi hC (c_X3_at l D cs az a (w := 0) (by decide) x3 g2 _ hv) (cwV 1 hts gX6_addUnit_X3_at rfl rfl rfl (by decide +kernel) ⟨Nat.le_of_ble_eq_true rfl, Nat.le_of_ble_eq_true rfl⟩) (f_land (w := 0) (by decide)) rfl rfl hl rfl (Nat.le_of_ble_eq_true rfl) dX6_addUnit_39 hE (Nat.le_of_ble_eq_true rfl) (Nat.le_of_ble_eq_true rfl) (fun r5 g4 H locs hv hE => ?_)
    refine lv_bipush (v := 120) hx hb dX6_addUnit_42 (by decide) ?_
    refine lv_icmp_eq (tgt := 62) hx hb dX6_addUnit_44 (by decide) (fun c => ?_) (fun c => ?_)
    · have hv := hv.1 c
      exact j_62  _  hv _ _ _ hE (lv_sub hl [] rfl)
    · have hv := hv.2 c
      refine lv_aload_n hx hb dX6_addUnit_47 rfl (lv_at hl 1 rfl) ?_
      refine G_get (v := .ref (a 1)) hC hE (fun _ h => List.mem_cons_of_mem _ (List.mem_append_left _ (List.mem_append_left _ (List.mem_append_left _ (List.mem_append_left _ (List.mem_append_left _ (List.mem_append_left _ (List.mem_append_left _ (List.mem_append_left _ (List.mem_append_left _ (List.mem_append_right _ h))))))))))) f_game rfl 0 (by decide) (hts (.fieldLink RX6 10 "SeedBattle" "field" "LSeedBattle$Field;") (List.mem_of_getElem? (i := 7) rfl)) rfl dX6_addUnit_48 ?_
      refine G_getN (v := .ref (a 4)) hC hE (fun _ h => List.mem_cons_of_mem _ (List.mem_append_left _ (List.mem_append_left _ (List.mem_append_left _ (List.mem_append_left _ (List.mem_append_left _ (List.mem_append_left _ (List.mem_append_left _ (List.mem_append_left _ (List.mem_append_right _ h)))))))))) (f_field (w := 0) (by decide)) rfl 1 (by decide) (List.mem_of_getElem? (i := 4) rfl) rfl dX6_addUnit_51 ?_
      refine lv_iload_n hx hb dX6_addUnit_54 rfl (lv_at hl 4 rfl) ?_
      refine T_callVi hC (c_X5_on l D cs az a (w := 0) (by decide) x3 g4 _ hv) (cwV 1 hts gX6_addUnit_X5_on rfl rfl rfl (by decide +kernel) ⟨Nat.le_of_ble_eq_true rfl, Nat.le_of_ble_eq_true rfl⟩) (f_units (w := 0) (by decide)) rfl rfl hl rfl (Nat.le_of_ble_eq_true rfl) dX6_addUnit_55 hE (Nat.le_of_ble_eq_true rfl) (Nat.le_of_ble_eq_true rfl) (fun r7 g6 H locs hv hE => ?_)
      refine lv_iconst (v := (-1)) hx hb dX6_addUnit_58 (by decide) ?_
      refine lv_icmp_eq (tgt := 72) hx hb dX6_addUnit_59 (by decide) (fun c => ?_) (fun c => ?_)
      · have hv := hv.1 c
        refine lv_aload_n hx hb dX6_addUnit_72 rfl (lv_at hl 1 rfl) ?_
        refine G_get (v := .ref (a 1)) hC hE (fun _ h => List.mem_cons_of_mem _ (List.mem_append_left _ (List.mem_append_left _ (List.mem_append_left _ (List.mem_append_left _ (List.mem_append_left _ (List.mem_append_left _ (List.mem_append_left _ (List.mem_append_left _ (List.mem_append_left _ (List.mem_append_right _ h))))))))))) f_game rfl 0 (by decide) (hts (.fieldLink RX6 10 "SeedBattle" "field" "LSeedBattle$Field;") (List.mem_of_getElem? (i := 7) rfl)) rfl dX6_addUnit_73 ?_
        refine G_getN (v := .ref (a 4)) hC hE (fun _ h => List.mem_cons_of_mem _ (List.mem_append_left _ (List.mem_append_left _ (List.mem_append_left _ (List.mem_append_left _ (List.mem_append_left _ (List.mem_append_left _ (List.mem_append_left _ (List.mem_append_left _ (List.mem_append_right _ h)))))))))) (f_field (w := 0) (by decide)) rfl 1 (by decide) (List.mem_of_getElem? (i := 4) rfl) rfl dX6_addUnit_76 ?_
        refine G_getN (v := .int (g6.2 3)) hC hE (fun _ h => List.mem_cons_of_mem _ (List.mem_append_left _ (List.mem_append_left _ (List.mem_append_left _ (List.mem_append_left _ (List.mem_append_left _ (List.mem_append_left _ (List.mem_append_left _ (List.mem_append_right _ h))))))))) (f_units (w := 0) (by decide)) rfl 4 (by decide) (List.mem_of_getElem? (i := 5) rfl) rfl dX6_addUnit_79 ?_
        refine lv_bipush (v := 24) hx hb dX6_addUnit_82 (by decide) ?_
        refine lv_icmp_ge (tgt := 94) hx hb dX6_addUnit_84 (by decide) (fun c => ?_) (fun c => ?_)
        · have hv := hv.1 c
          exact j_94  _  hv _ _ _ hE (lv_sub hl [] rfl)
        · have hv := hv.2 c
          refine lv_aload_n hx hb dX6_addUnit_87 rfl (lv_at hl 1 rfl) ?_
          refine G_get (v := .int (g6.2 1)) hC hE (fun _ h => List.mem_cons_of_mem _ (List.mem_append_left _ (List.mem_append_left _ (List.mem_append_left _ (List.mem_append_left _ (List.mem_append_left _ (List.mem_append_left _ (List.mem_append_left _ (List.mem_append_left _ (List.mem_append_left _ (List.mem_append_right _ h))))))))))) f_game rfl 8 (by decide) (hts (.fieldLink RX6 108 "SeedBattle" "turnsDone" "I") (List.mem_of_getElem? (i := 8) rfl)) rfl dX6_addUnit_88 ?_
          refine lv_if_le (tgt := 104) hx hb dX6_addUnit_91 (by decide) (fun c => ?_) (fun c => ?_)
          · have hv := hv.1 c
            refine lv_aload_n hx hb dX6_addUnit_104 rfl (lv_at hl 1 rfl) ?_
            refine G_get (v := .ref (a 1)) hC hE (fun _ h => List.mem_cons_of_mem _ (List.mem_append_left _ (List.mem_append_left _ (List.mem_append_left _ (List.mem_append_left _ (List.mem_append_left _ (List.mem_append_left _ (List.mem_append_left _ (List.mem_append_left _ (List.mem_append_left _ (List.mem_append_right _ h))))))))))) f_game rfl 0 (by decide) (hts (.fieldLink RX6 10 "SeedBattle" "field" "LSeedBattle$Field;") (List.mem_of_getElem? (i := 7) rfl)) rfl dX6_addUnit_105 ?_
            refine G_getN (v := .ref (a 4)) hC hE (fun _ h => List.mem_cons_of_mem _ (List.mem_append_left _ (List.mem_append_left _ (List.mem_append_left _ (List.mem_append_left _ (List.mem_append_left _ (List.mem_append_left _ (List.mem_append_left _ (List.mem_append_left _ (List.mem_append_right _ h)))))))))) (f_field (w := 0) (by decide)) rfl 1 (by decide) (List.mem_of_getElem? (i := 4) rfl) rfl dX6_addUnit_108 ?_
            refine lv_iload_n hx hb dX6_addUnit_111 rfl (lv_at hl 2 rfl) ?_
            refine lv_iload hx hb dX6_addUnit_112 (lv_at hl 0 rfl) ?_
            refine lv_iload_n hx hb dX6_addUnit_114 rfl (lv_at hl 4 rfl) ?_
            refine T_callVi hC (c_X5_put l D cs az a (w := 0) (by decide) x1 r3 x3 g6 _ hv) (cwV 3 hts gX6_addUnit_X5_put rfl rfl rfl (by decide +kernel) ⟨Nat.le_of_ble_eq_true rfl, Nat.le_of_ble_eq_true rfl⟩) (f_units (w := 0) (by decide)) rfl rfl hl rfl (Nat.le_of_ble_eq_true rfl) dX6_addUnit_115 hE (Nat.le_of_ble_eq_true rfl) (Nat.le_of_ble_eq_true rfl) (fun r9 g8 H locs hv hE => ?_)
            exact T_zret hC hr hk hE rfl hv dX6_addUnit_118 (Nat.le_of_ble_eq_true rfl) (Nat.le_of_ble_eq_true rfl)
          · have hv := hv.2 c
            exact j_94  _  hv _ _ _ hE (lv_sub hl [] rfl)
      · have hv := hv.2 c
        exact j_62  _  hv _ _ _ hE (lv_sub hl [] rfl)
  · have hv := hv.2 c
    exact T_throw (px := px) hfl hC hx0 hk hE hl (cls := "java/lang/IllegalArgumentException") (text := "no such kind") (by decide +kernel) (hts (.classLink RX6 95 "java/lang/IllegalArgumentException") (List.mem_of_getElem? (i := 1) rfl)) (hts (.initialized "java/lang/IllegalArgumentException") (List.mem_of_getElem? (i := 2) rfl)) (by decide +kernel) (fun _ h => List.mem_cons_of_mem _ (List.mem_append_left _ (List.mem_append_left _ (List.mem_append_left _ (List.mem_append_left _ (List.mem_append_right _ h)))))) (by decide +kernel) (by decide +kernel) dX6_addUnit_21 dX6_addUnit_24 dX6_addUnit_25 dX6_addUnit_27 dX6_addUnit_30 (Nat.le_of_ble_eq_true rfl) (Nat.le_of_ble_eq_true rfl) (Nat.le_of_ble_eq_true rfl) (Nat.le_of_ble_eq_true rfl) hv (Nat.le_of_ble_eq_true rfl) (Nat.le_of_ble_eq_true rfl)
def J_X6_order_61 (x1 : Int32) (x2 : Int32) (post : Int32 → St → Prop) (px : String → St → Prop)   (g : St) : Prop := px "java/lang/UnsupportedOperationException" g
def J_X6_order_15 (x1 : Int32) (x2 : Int32) (post : Int32 → St → Prop) (px : String → St → Prop)   (g : St) : Prop := px "java/lang/IllegalArgumentException" g
def V_X6_order (x1 : Int32) (x2 : Int32) (g : St) (post : Int32 → St → Prop) (px : String → St → Prop) : Prop := V_X6_requireUnit x1 g (fun g1 => ((x2 < 0 → J_X6_order_15 x1 x2 post px g1) ∧ (¬ x2 < 0 → ((x2 < 8 → V_X5_lives 0 x1 g1 (fun r3 g2 => ((r3 = 0 → J_X6_order_61 x1 x2 post px g2) ∧ (¬ r3 = 0 → V_X4_givenTo x1 g2 (fun r5 g4 => V_X5_steps 0 x1 g4 (fun r7 g6 => ((r5 < r7 → V_X4_give (g6.2 1) x1 x2 g6 (fun r9 g8 => post r9 g8)) ∧ (¬ r5 < r7 → J_X6_order_61 x1 x2 post px g6)))))))) ∧ (¬ x2 < 8 → J_X6_order_15 x1 x2 post px g1))))) px
abbrev rm_X6_order : Room := { frames := 7, cells := 4, slots := 24, locals := 111 }
set_option maxHeartbeats 4000000 in
set_option maxRecDepth 100000 in
theorem c_X6_order (l : Launch) (hfl : l.flags = flags0) (D : va_G) (cs az a : Nat → Nat) (x1 : Int32) (x2 : Int32) (g : St) (post : Int32 → St → Prop) (px : String → St → Prop) (hv : V_X6_order x1 x2 g post px) : uTi l yX6_order wsX6_order rm_X6_order D cs az (gW cs a) [.ref (a 0), .int x1, .int x2] g 4 24 post px := by
  refine u_ofTi (cc := cX6_order) (maxL := 3) (by decide) rfl (Nat.le_of_ble_eq_true rfl) ?_
  intro p e s m args below meth c F ls hC hx0 hr hk hl hE
  have hx := hC.1.1; have hb := hC.1.2.1; have hml := hC.1.2.2.1; have hts := hC.1.2.2.2.2
  have hown : s.vm.findClass RX6 = some m.cls := hC.1.2.2.2.1
  have hl : lv_has ls 3 [(0, .ref (a 0)), (1, .int x1), (2, .int x2)] := hl
  unfold V_X6_order at hv
  have j_61 : ∀  (g : St), J_X6_order_61 x1 x2 post px g → ∀ (H : Heap) (locs : List Loc) (ls : Array Slot), uE D 52 gA (gO cs a) cs a F s g H locs → lv_has ls 3 [] → W p l e rm_X6_order s m args below meth c H locs 1 6 (vx_MQ below (va_Qi post (uB D (uW 52 gA (gO cs a) cs a)) F) (uX9 D (uW 52 gA (gO cs a) cs a) px F) args s 4 24 F) (F0 m 61 ls []) := by
    intro  g  hv
    intro H locs ls hE hl
    unfold J_X6_order_61 at hv
    exact T_throw (px := px) hfl hC hx0 hk hE hl (cls := "java/lang/UnsupportedOperationException") (text := "the unit is lost or has all its orders") (by decide +kernel) (hts (.classLink RX6 103 "java/lang/UnsupportedOperationException") (List.mem_of_getElem? (i := 3) rfl)) (hts (.initialized "java/lang/UnsupportedOperationException") (List.mem_of_getElem? (i := 4) rfl)) (by decide +kernel) (fun _ h => List.mem_cons_of_mem _ (List.mem_append_left _ (List.mem_append_left _ (List.mem_append_right _ h)))) (by decide +kernel) (by decide +kernel) dX6_order_61 dX6_order_64 dX6_order_65 dX6_order_67 dX6_order_70 (Nat.le_of_ble_eq_true rfl) (Nat.le_of_ble_eq_true rfl) (Nat.le_of_ble_eq_true rfl) (Nat.le_of_ble_eq_true rfl) hv (Nat.le_of_ble_eq_true rfl) (Nat.le_of_ble_eq_true rfl)
  have j_15 : ∀  (g : St), J_X6_order_15 x1 x2 post px g → ∀ (H : Heap) (locs : List Loc) (ls : Array Slot), uE D 52 gA (gO cs a) cs a F s g H locs → lv_has ls 3 [] → W p l e rm_X6_order s m args below meth c H locs 1 6 (vx_MQ below (va_Qi post (uB D (uW 52 gA (gO cs a) cs a)) F) (uX9 D (uW 52 gA (gO cs a) cs a) px F) args s 4 24 F) (F0 m 15 ls []) := by
    intro  g  hv
    intro H locs ls hE hl
    unfold J_X6_order_15 at hv
    exact T_throw (px := px) hfl hC hx0 hk hE hl (cls := "java/lang/IllegalArgumentException") (text := "no such direction") (by decide +kernel) (hts (.classLink RX6 95 "java/lang/IllegalArgumentException") (List.mem_of_getElem? (i := 1) rfl)) (hts (.initialized "java/lang/IllegalArgumentException") (List.mem_of_getElem? (i := 2) rfl)) (by decide +kernel) (fun _ h => List.mem_cons_of_mem _ (List.mem_append_left _ (List.mem_append_left _ (List.mem_append_left _ (List.mem_append_right _ h))))) (by decide +kernel) (by decide +kernel) dX6_order_15 dX6_order_18 dX6_order_19 dX6_order_21 dX6_order_24 (Nat.le_of_ble_eq_true rfl) (Nat.le_of_ble_eq_true rfl) (Nat.le_of_ble_eq_true rfl) (Nat.le_of_ble_eq_true rfl) hv (Nat.le_of_ble_eq_true rfl) (Nat.le_of_ble_eq_true rfl)
  refine lv_aload_n hx hb dX6_order_0 rfl (lv_at hl 0 rfl) ?_
  refine lv_iload_n hx hb dX6_order_1 rfl (lv_at hl 1 rfl) ?_
  refine T_callVTv hC hx0 hk (c_X6_requireUnit l hfl D cs az a x1 g _ _ hv) (cwV 1 hts gX6_order_X6_requireUnit rfl rfl rfl (by decide +kernel) ⟨Nat.le_of_ble_eq_true rfl, Nat.le_of_ble_eq_true rfl⟩) f_game rfl rfl hl rfl (Nat.le_of_ble_eq_true rfl) dX6_order_2 hE (Nat.le_of_ble_eq_true rfl) (Nat.le_of_ble_eq_true rfl) (Nat.le_of_ble_eq_true rfl) (Nat.le_of_ble_eq_true rfl) (fun g1 H locs hv hE => ?_)
  refine W.widen (k := 1) (n := 6) (Nat.le_of_ble_eq_true rfl) (Nat.le_of_ble_eq_true rfl) ?_
  refine lv_iload_n hx hb dX6_order_5 rfl (lv_at hl 2 rfl) ?_
  refine lv_if_lt (tgt := 15) hx hb dX6_order_6 (by decide) (fun c => ?_) (fun c => ?_)
  · have hv := hv.1 c
    exact j_15  _  hv _ _ _ hE (lv_sub hl [] rfl)
  · have hv := hv.2 c
    refine lv_iload_n hx hb dX6_order_9 rfl (lv_at hl 2 rfl) ?_
    refine lv_bipush (v := 8) hx hb dX6_order_10 (by decide) ?_
    refine lv_icmp_lt (tgt := 25) hx hb dX6_order_12 (by decide) (fun c => ?_) (fun c => ?_)
    · have hv := hv.1 c
      refine lv_aload_n hx hb dX6_order_25 rfl (lv_at hl 0 rfl) ?_
      refine G_get (v := .ref (a 1)) hC hE (fun _ h => List.mem_cons_of_mem _ (List.mem_append_left _ (List.mem_append_left _ (List.mem_append_left _ (List.mem_append_left _ (List.mem_append_left _ (List.mem_append_left _ (List.mem_append_left _ (List.mem_append_right _ h))))))))) f_game rfl 0 (by decide) (hts (.fieldLink RX6 10 "SeedBattle" "field" "LSeedBattle$Field;") (List.mem_of_getElem? (i := 5) rfl)) rfl dX6_order_26 ?_
      refine G_getN (v := .ref (a 4)) hC hE (fun _ h => List.mem_cons_of_mem _ (List.mem_append_left _ (List.mem_append_left _ (List.mem_append_left _ (List.mem_append_left _ (List.mem_append_left _ (List.mem_append_left _ (List.mem_append_right _ h)))))))) (f_field (w := 0) (by decide)) rfl 1 (by decide) (List.mem_of_getElem? (i := 4) rfl) rfl dX6_order_29 ?_
      refine lv_iload_n hx hb dX6_order_32 rfl (lv_at hl 1 rfl) ?_
      refine T_callVi hC (c_X5_lives l D cs az a (w := 0) (by decide) x1 g1 _ hv) (cwV 1 hts gX6_order_X5_lives rfl rfl rfl (by decide +kernel) ⟨Nat.le_of_ble_eq_true rfl, Nat.le_of_ble_eq_true rfl⟩) (f_units (w := 0) (by decide)) rfl rfl hl rfl (Nat.le_of_ble_eq_true rfl) dX6_order_33 hE (Nat.le_of_ble_eq_true rfl) (Nat.le_of_ble_eq_true rfl) (fun r3 g2 H locs hv hE => ?_)
      refine lv_if_eq (tgt := 61) hx hb dX6_order_36 (by decide) (fun c => ?_) (fun c => ?_)
      · have hv := hv.1 c
        exact j_61  _  hv _ _ _ hE (lv_sub hl [] rfl)
      · have hv := hv.2 c
        refine lv_aload_n hx hb dX6_order_39 rfl (lv_at hl 0 rfl) ?_
        refine G_get (v := .ref (a 21)) hC hE (fun _ h => List.mem_cons_of_mem _ (List.mem_append_left _ (List.mem_append_left _ (List.mem_append_left _ (List.mem_append_left _ (List.mem_append_left _ (List.mem_append_left _ (List.mem_append_left _ (List.mem_append_right _ h))))))))) f_game rfl 2 (by decide) (hts (.fieldLink RX6 22 "SeedBattle" "orders" "LSeedBattle$Orders;") (List.mem_of_getElem? (i := 6) rfl)) rfl dX6_order_40 ?_
        refine lv_iload_n hx hb dX6_order_43 rfl (lv_at hl 1 rfl) ?_
        refine T_callVi hC (c_X4_givenTo l D cs az a x1 g2 _ hv) (cwV 1 hts gX6_order_X4_givenTo rfl rfl rfl (by decide +kernel) ⟨Nat.le_of_ble_eq_true rfl, Nat.le_of_ble_eq_true rfl⟩) f_orders rfl rfl hl rfl (Nat.le_of_ble_eq_true rfl) dX6_order_44 hE (Nat.le_of_ble_eq_true rfl) (Nat.le_of_ble_eq_true rfl) (fun r5 g4 H locs hv hE => ?_)
        refine lv_aload_n hx hb dX6_order_47 rfl (lv_at hl 0 rfl) ?_
        refine G_get (v := .ref (a 1)) hC hE (fun _ h => List.mem_cons_of_mem _ (List.mem_append_left _ (List.mem_append_left _ (List.mem_append_left _ (List.mem_append_left _ (List.mem_append_left _ (List.mem_append_left _ (List.mem_append_left _ (List.mem_append_right _ h))))))))) f_game rfl 0 (by decide) (hts (.fieldLink RX6 10 "SeedBattle" "field" "LSeedBattle$Field;") (List.mem_of_getElem? (i := 5) rfl)) rfl dX6_order_48 ?_
        refine G_getN (v := .ref (a 4)) hC hE (fun _ h => List.mem_cons_of_mem _ (List.mem_append_left _ (List.mem_append_left _ (List.mem_append_left _ (List.mem_append_left _ (List.mem_append_left _ (List.mem_append_left _ (List.mem_append_right _ h)))))))) (f_field (w := 0) (by decide)) rfl 1 (by decide) (List.mem_of_getElem? (i := 4) rfl) rfl dX6_order_51 ?_
        refine lv_iload_n hx hb dX6_order_54 rfl (lv_at hl 1 rfl) ?_
        refine T_callVi hC (c_X5_steps l D cs az a (w := 0) (by decide) x1 g4 _ hv) (cwV 1 hts gX6_order_X5_steps rfl rfl rfl (by decide +kernel) ⟨Nat.le_of_ble_eq_true rfl, Nat.le_of_ble_eq_true rfl⟩) (f_units (w := 0) (by decide)) rfl rfl hl rfl (Nat.le_of_ble_eq_true rfl) dX6_order_55 hE (Nat.le_of_ble_eq_true rfl) (Nat.le_of_ble_eq_true rfl) (fun r7 g6 H locs hv hE => ?_)
        refine lv_icmp_lt (tgt := 71) hx hb dX6_order_58 (by decide) (fun c => ?_) (fun c => ?_)
        · have hv := hv.1 c
          refine lv_aload_n hx hb dX6_order_71 rfl (lv_at hl 0 rfl) ?_
          refine G_get (v := .ref (a 21)) hC hE (fun _ h => List.mem_cons_of_mem _ (List.mem_append_left _ (List.mem_append_left _ (List.mem_append_left _ (List.mem_append_left _ (List.mem_append_left _ (List.mem_append_left _ (List.mem_append_left _ (List.mem_append_right _ h))))))))) f_game rfl 2 (by decide) (hts (.fieldLink RX6 22 "SeedBattle" "orders" "LSeedBattle$Orders;") (List.mem_of_getElem? (i := 6) rfl)) rfl dX6_order_72 ?_
          refine lv_aload_n hx hb dX6_order_75 rfl (lv_at hl 0 rfl) ?_
          refine G_get (v := .int (g6.2 1)) hC hE (fun _ h => List.mem_cons_of_mem _ (List.mem_append_left _ (List.mem_append_left _ (List.mem_append_left _ (List.mem_append_left _ (List.mem_append_left _ (List.mem_append_left _ (List.mem_append_left _ (List.mem_append_right _ h))))))))) f_game rfl 8 (by decide) (hts (.fieldLink RX6 108 "SeedBattle" "turnsDone" "I") (List.mem_of_getElem? (i := 7) rfl)) rfl dX6_order_76 ?_
          refine lv_iload_n hx hb dX6_order_79 rfl (lv_at hl 1 rfl) ?_
          refine lv_iload_n hx hb dX6_order_80 rfl (lv_at hl 2 rfl) ?_
          refine T_callVi hC (c_X4_give l D cs az a (g6.2 1) x1 x2 g6 _ hv) (cwV 3 hts gX6_order_X4_give rfl rfl rfl (by decide +kernel) ⟨Nat.le_of_ble_eq_true rfl, Nat.le_of_ble_eq_true rfl⟩) f_orders rfl rfl hl rfl (Nat.le_of_ble_eq_true rfl) dX6_order_81 hE (Nat.le_of_ble_eq_true rfl) (Nat.le_of_ble_eq_true rfl) (fun r9 g8 H locs hv hE => ?_)
          exact T_zret hC hr hk hE rfl hv dX6_order_84 (Nat.le_of_ble_eq_true rfl) (Nat.le_of_ble_eq_true rfl)
        · have hv := hv.2 c
          exact j_61  _  hv _ _ _ hE (lv_sub hl [] rfl)
    · have hv := hv.2 c
      exact j_15  _  hv _ _ _ hE (lv_sub hl [] rfl)
def J_X6_turn_72  (post : Int32 → St → Prop) (px : String → St → Prop) (K72 : (Int32 × Int32 × St) → Prop) (v1 : Int32) (v2 : Int32) (g : St) : Prop := ((4 ≤ v2 → post v1 g) ∧ (¬ 4 ≤ v2 → V_X6_hearAll v2 g (fun g5 => K72 (v1, (v2 + 1), g5))))
def J_X6_turn_54  (post : Int32 → St → Prop) (px : String → St → Prop) (K54 : (Int32 × Int32 × St) → Prop) (v1 : Int32) (v2 : Int32) (g : St) : Prop := ((4 ≤ v2 → lpP (fun K72 (z : Int32 × Int32 × St) => J_X6_turn_72 post px K72 z.1 z.2.1 z.2.2) (v1, 0, g)) ∧ (¬ 4 ≤ v2 → V_X6_watch v2 g (fun g4 => K54 (v1, (v2 + 1), g4))))
def V_X6_turn  (g : St) (post : Int32 → St → Prop) (px : String → St → Prop) : Prop := (((g.2 1) < 99 → V_X1_playTurn 0 (g.2 1) g (fun r2 g1 => V_X4_startTurn (sS g1 1 ((g1.2 1) + 1)) (fun g3 => lpP (fun K54 (z : Int32 × Int32 × St) => J_X6_turn_54 post px K54 z.1 z.2.1 z.2.2) (r2, 0, g3)))) ∧ (¬ (g.2 1) < 99 → px "java/lang/IllegalStateException" g))
abbrev rm_X6_turn : Room := { frames := 6, cells := 4, slots := 24, locals := 146 }
set_option maxHeartbeats 4000000 in
set_option maxRecDepth 100000 in
theorem c_X6_turn (l : Launch) (hfl : l.flags = flags0) (D : va_G) (cs az a : Nat → Nat)  (g : St) (post : Int32 → St → Prop) (px : String → St → Prop) (hv : V_X6_turn  g post px) : uTi l yX6_turn wsX6_turn rm_X6_turn D cs az (gW cs a) [.ref (a 0)] g 4 24 post px := by
  refine u_ofTi (cc := cX6_turn) (maxL := 3) (by decide) rfl (Nat.le_of_ble_eq_true rfl) ?_
  intro p e s m args below meth c F ls hC hx0 hr hk hl hE
  have hx := hC.1.1; have hb := hC.1.2.1; have hml := hC.1.2.2.1; have hts := hC.1.2.2.2.2
  have hown : s.vm.findClass RX6 = some m.cls := hC.1.2.2.2.1
  have hl : lv_has ls 3 [(0, .ref (a 0))] := hl
  unfold V_X6_turn at hv
  have j_72 : ∀ (v1 : Int32) (v2 : Int32) (g : St), lpP (fun K72 (z : Int32 × Int32 × St) => J_X6_turn_72 post px K72 z.1 z.2.1 z.2.2) (v1, v2, g) → ∀ (H : Heap) (locs : List Loc) (ls : Array Slot), uE D 52 gA (gO cs a) cs a F s g H locs → lv_has ls 3 [(0, .ref (a 0)), (1, .int v1), (2, .int v2)] → W p l e rm_X6_turn s m args below meth c H locs 0 0 (vx_MQ below (va_Qi post (uB D (uW 52 gA (gO cs a) cs a)) F) (uX9 D (uW 52 gA (gO cs a) cs a) px F) args s 4 24 F) (F0 m 72 ls []) := by
    intro  v1 v2 g  hv
    obtain ⟨nn, hv⟩ := hv
    induction nn generalizing v1 v2 g with
    | zero => exact False.elim hv
    | succ nn hK72 =>
      intro H locs ls hE hl
      have hv : J_X6_turn_72 post px (itP _ nn) v1 v2 g := hv
      unfold J_X6_turn_72 at hv
      refine lv_iload_n hx hb dX6_turn_72 rfl (lv_at hl 2 rfl) ?_
      refine lv_iconst (v := 4) hx hb dX6_turn_73 (by decide) ?_
      refine lv_icmp_ge (tgt := 88) hx hb dX6_turn_74 (by decide) (fun c => ?_) (fun c => ?_)
      · have hv := hv.1 c
        refine lv_iload_n hx hb dX6_turn_88 rfl (lv_at hl 1 rfl) ?_
        exact T_zret hC hr hk hE rfl hv dX6_turn_89 (Nat.le_of_ble_eq_true rfl) (Nat.le_of_ble_eq_true rfl)
      · have hv := hv.2 c
        refine lv_aload_n hx hb dX6_turn_77 rfl (lv_at hl 0 rfl) ?_
        refine lv_iload_n hx hb dX6_turn_78 rfl (lv_at hl 2 rfl) ?_
        refine T_callVv hC (c_X6_hearAll l D cs az a v2 g _ hv) (cwV 1 hts gX6_turn_X6_hearAll rfl rfl rfl (by decide +kernel) ⟨Nat.le_of_ble_eq_true rfl, Nat.le_of_ble_eq_true rfl⟩) f_game rfl rfl hl rfl (Nat.le_of_ble_eq_true rfl) dX6_turn_79 hE (Nat.le_of_ble_eq_true rfl) (Nat.le_of_ble_eq_true rfl) (fun g5 H locs hv hE => ?_)
        refine lv_iinc (v := (v2 + 1)) (lv' := [(2, .int (v2 + 1)), (0, .ref (a 0)), (1, .int v1)]) hx hb dX6_turn_82 hl (k := 2) rfl rfl (by decide) rfl (fun ls hl => ?_)
        refine lv_goto (tgt := 72) hx hb dX6_turn_85 (by decide) ?_
        exact hK72 _ _ _  hv _ _ _ hE (lv_sub hl [1, 2, 0] rfl)
  have j_54 : ∀ (v1 : Int32) (v2 : Int32) (g : St), lpP (fun K54 (z : Int32 × Int32 × St) => J_X6_turn_54 post px K54 z.1 z.2.1 z.2.2) (v1, v2, g) → ∀ (H : Heap) (locs : List Loc) (ls : Array Slot), uE D 52 gA (gO cs a) cs a F s g H locs → lv_has ls 3 [(0, .ref (a 0)), (1, .int v1), (2, .int v2)] → W p l e rm_X6_turn s m args below meth c H locs 0 0 (vx_MQ below (va_Qi post (uB D (uW 52 gA (gO cs a) cs a)) F) (uX9 D (uW 52 gA (gO cs a) cs a) px F) args s 4 24 F) (F0 m 54 ls []) := by
    intro  v1 v2 g  hv
    obtain ⟨nn, hv⟩ := hv
    induction nn generalizing v1 v2 g with
    | zero => exact False.elim hv
    | succ nn hK54 =>
      intro H locs ls hE hl
      have hv : J_X6_turn_54 post px (itP _ nn) v1 v2 g := hv
      unfold J_X6_turn_54 at hv
      refine lv_iload_n hx hb dX6_turn_54 rfl (lv_at hl 2 rfl) ?_
      refine lv_iconst (v := 4) hx hb dX6_turn_55 (by decide) ?_
      refine lv_icmp_ge (tgt := 70) hx hb dX6_turn_56 (by decide) (fun c => ?_) (fun c => ?_)
      · have hv := hv.1 c
        refine lv_iconst (v := 0) hx hb dX6_turn_70 (by decide) ?_
        refine lv_istore_n (lv' := [(2, .int 0), (0, .ref (a 0)), (1, .int v1)]) hx hb dX6_turn_71 rfl hl (by decide) rfl (fun ls hl => ?_)
        exact j_72  _ _ _  hv _ _ _ hE (lv_sub hl [1, 2, 0] rfl)
      · have hv := hv.2 c
        refine lv_aload_n hx hb dX6_turn_59 rfl (lv_at hl 0 rfl) ?_
        refine lv_iload_n hx hb dX6_turn_60 rfl (lv_at hl 2 rfl) ?_
        refine T_callVv hC (c_X6_watch l D cs az a v2 g _ hv) (cwV 1 hts gX6_turn_X6_watch rfl rfl rfl (by decide +kernel) ⟨Nat.le_of_ble_eq_true rfl, Nat.le_of_ble_eq_true rfl⟩) f_game rfl rfl hl rfl (Nat.le_of_ble_eq_true rfl) dX6_turn_61 hE (Nat.le_of_ble_eq_true rfl) (Nat.le_of_ble_eq_true rfl) (fun g4 H locs hv hE => ?_)
        refine lv_iinc (v := (v2 + 1)) (lv' := [(2, .int (v2 + 1)), (0, .ref (a 0)), (1, .int v1)]) hx hb dX6_turn_64 hl (k := 2) rfl rfl (by decide) rfl (fun ls hl => ?_)
        refine lv_goto (tgt := 54) hx hb dX6_turn_67 (by decide) ?_
        exact hK54 _ _ _  hv _ _ _ hE (lv_sub hl [1, 2, 0] rfl)
  refine lv_aload_n hx hb dX6_turn_0 rfl (lv_at hl 0 rfl) ?_
  refine G_get (v := .int (g.2 1)) hC hE (fun _ h => List.mem_cons_of_mem _ (List.mem_append_left _ (List.mem_append_left _ (List.mem_append_left _ (List.mem_append_left _ (List.mem_append_left _ (List.mem_append_left _ (List.mem_append_left _ (List.mem_append_left _ (List.mem_append_right _ h)))))))))) f_game rfl 8 (by decide) (hts (.fieldLink RX6 108 "SeedBattle" "turnsDone" "I") (List.mem_of_getElem? (i := 3) rfl)) rfl dX6_turn_1 ?_
  refine lv_bipush (v := 99) hx hb dX6_turn_4 (by decide) ?_
  refine lv_icmp_lt (tgt := 19) hx hb dX6_turn_6 (by decide) (fun c => ?_) (fun c => ?_)
  · have hv := hv.1 c
    refine lv_aload_n hx hb dX6_turn_19 rfl (lv_at hl 0 rfl) ?_
    refine G_get (v := .ref (a 1)) hC hE (fun _ h => List.mem_cons_of_mem _ (List.mem_append_left _ (List.mem_append_left _ (List.mem_append_left _ (List.mem_append_left _ (List.mem_append_left _ (List.mem_append_left _ (List.mem_append_left _ (List.mem_append_left _ (List.mem_append_right _ h)))))))))) f_game rfl 0 (by decide) (hts (.fieldLink RX6 10 "SeedBattle" "field" "LSeedBattle$Field;") (List.mem_of_getElem? (i := 4) rfl)) rfl dX6_turn_20 ?_
    refine lv_aload_n hx hb dX6_turn_23 rfl (lv_at hl 0 rfl) ?_
    refine G_get (v := .ref (a 21)) hC hE (fun _ h => List.mem_cons_of_mem _ (List.mem_append_left _ (List.mem_append_left _ (List.mem_append_left _ (List.mem_append_left _ (List.mem_append_left _ (List.mem_append_left _ (List.mem_append_left _ (List.mem_append_left _ (List.mem_append_right _ h)))))))))) f_game rfl 2 (by decide) (hts (.fieldLink RX6 22 "SeedBattle" "orders" "LSeedBattle$Orders;") (List.mem_of_getElem? (i := 5) rfl)) rfl dX6_turn_24 ?_
    refine lv_aload_n hx hb dX6_turn_27 rfl (lv_at hl 0 rfl) ?_
    refine G_get (v := .int (g.2 1)) hC hE (fun _ h => List.mem_cons_of_mem _ (List.mem_append_left _ (List.mem_append_left _ (List.mem_append_left _ (List.mem_append_left _ (List.mem_append_left _ (List.mem_append_left _ (List.mem_append_left _ (List.mem_append_left _ (List.mem_append_right _ h)))))))))) f_game rfl 8 (by decide) (hts (.fieldLink RX6 108 "SeedBattle" "turnsDone" "I") (List.mem_of_getElem? (i := 3) rfl)) rfl dX6_turn_28 ?_
    refine T_callVi hC (c_X1_playTurn l D cs az a (w := 0) (by decide) (g.2 1) g _ hv) (cwV 2 hts gX6_turn_X1_playTurn rfl rfl rfl (by decide +kernel) ⟨Nat.le_of_ble_eq_true rfl, Nat.le_of_ble_eq_true rfl⟩) (f_field (w := 0) (by decide)) rfl rfl hl rfl (Nat.le_of_ble_eq_true rfl) dX6_turn_31 hE (Nat.le_of_ble_eq_true rfl) (Nat.le_of_ble_eq_true rfl) (fun r2 g1 H locs hv hE => ?_)
    refine lv_istore_n (lv' := [(1, .int r2), (0, .ref (a 0))]) hx hb dX6_turn_34 rfl hl (by decide) rfl (fun ls hl => ?_)
    refine lv_aload_n hx hb dX6_turn_35 rfl (lv_at hl 1 rfl) ?_
    refine lv_dup hx hb dX6_turn_36 rfl ?_
    refine G_get (v := .int (g1.2 1)) hC hE (fun _ h => List.mem_cons_of_mem _ (List.mem_append_left _ (List.mem_append_left _ (List.mem_append_left _ (List.mem_append_left _ (List.mem_append_left _ (List.mem_append_left _ (List.mem_append_left _ (List.mem_append_left _ (List.mem_append_right _ h)))))))))) f_game rfl 8 (by decide) (hts (.fieldLink RX6 108 "SeedBattle" "turnsDone" "I") (List.mem_of_getElem? (i := 3) rfl)) rfl dX6_turn_37 ?_
    refine lv_iconst (v := 1) hx hb dX6_turn_40 (by decide) ?_
    refine lv_iadd hx hb dX6_turn_41 ?_
    refine G_put (v := ((g1.2 1) + 1)) (ty := .int) hC hE (fun _ h => List.mem_cons_of_mem _ (List.mem_append_left _ (List.mem_append_left _ (List.mem_append_left _ (List.mem_append_left _ (List.mem_append_left _ (List.mem_append_left _ (List.mem_append_left _ (List.mem_append_left _ (List.mem_append_right _ h)))))))))) tyX6 tyX6_ok nmX6 f_game rfl 8 1 (by decide) (hts (.fieldLink RX6 108 "SeedBattle" "turnsDone" "I") (List.mem_of_getElem? (i := 3) rfl)) rfl (by decide +kernel) rfl rfl (Nat.le_of_ble_eq_true rfl) (p_game_turnsDone_e) (p_game_turnsDone_o) dX6_turn_42 (fun H locs hE => ?_)
    refine lv_aload_n hx hb dX6_turn_45 rfl (lv_at hl 1 rfl) ?_
    refine G_get (v := .ref (a 21)) hC hE (fun _ h => List.mem_cons_of_mem _ (List.mem_append_left _ (List.mem_append_left _ (List.mem_append_left _ (List.mem_append_left _ (List.mem_append_left _ (List.mem_append_left _ (List.mem_append_left _ (List.mem_append_left _ (List.mem_append_right _ h)))))))))) f_game rfl 2 (by decide) (hts (.fieldLink RX6 22 "SeedBattle" "orders" "LSeedBattle$Orders;") (List.mem_of_getElem? (i := 5) rfl)) rfl dX6_turn_46 ?_
    refine T_callVv hC (c_X4_startTurn l D cs az a  (sS g1 1 ((g1.2 1) + 1)) _ hv) (cwV 0 hts gX6_turn_X4_startTurn rfl rfl rfl (by decide +kernel) ⟨Nat.le_of_ble_eq_true rfl, Nat.le_of_ble_eq_true rfl⟩) f_orders rfl rfl hl rfl (Nat.le_of_ble_eq_true rfl) dX6_turn_49 hE (Nat.le_of_ble_eq_true rfl) (Nat.le_of_ble_eq_true rfl) (fun g3 H locs hv hE => ?_)
    refine lv_iconst (v := 0) hx hb dX6_turn_52 (by decide) ?_
    refine lv_istore_n (lv' := [(2, .int 0), (1, .int r2), (0, .ref (a 0))]) hx hb dX6_turn_53 rfl hl (by decide) rfl (fun ls hl => ?_)
    exact j_54  _ _ _  hv _ _ _ hE (lv_sub hl [2, 1, 0] rfl)
  · have hv := hv.2 c
    exact T_throw (px := px) hfl hC hx0 hk hE hl (cls := "java/lang/IllegalStateException") (text := "99 turns were done") (by decide +kernel) (hts (.classLink RX6 67 "java/lang/IllegalStateException") (List.mem_of_getElem? (i := 1) rfl)) (hts (.initialized "java/lang/IllegalStateException") (List.mem_of_getElem? (i := 2) rfl)) (by decide +kernel) (fun _ h => List.mem_cons_of_mem _ (List.mem_append_left _ (List.mem_append_left _ (List.mem_append_right _ h)))) (by decide +kernel) (by decide +kernel) dX6_turn_9 dX6_turn_12 dX6_turn_13 dX6_turn_15 dX6_turn_18 (Nat.le_of_ble_eq_true rfl) (Nat.le_of_ble_eq_true rfl) (Nat.le_of_ble_eq_true rfl) (Nat.le_of_ble_eq_true rfl) hv (Nat.le_of_ble_eq_true rfl) (Nat.le_of_ble_eq_true rfl)
def V_X6_cellOf (x1 : Int32) (g : St) (post : Int32 → St → Prop) (px : String → St → Prop) : Prop := V_X6_requireUnit x1 g (fun g1 => V_X5_place 0 x1 g1 (fun r3 g2 => post r3 g2)) px
abbrev rm_X6_cellOf : Room := { frames := 7, cells := 4, slots := 24, locals := 111 }
set_option maxHeartbeats 4000000 in
set_option maxRecDepth 100000 in
theorem c_X6_cellOf (l : Launch) (hfl : l.flags = flags0) (D : va_G) (cs az a : Nat → Nat) (x1 : Int32) (g : St) (post : Int32 → St → Prop) (px : String → St → Prop) (hv : V_X6_cellOf x1 g post px) : uTi l yX6_cellOf wsX6_cellOf rm_X6_cellOf D cs az (gW cs a) [.ref (a 0), .int x1] g 4 24 post px := by
  refine u_ofTi (cc := cX6_cellOf) (maxL := 2) (by decide) rfl (Nat.le_of_ble_eq_true rfl) ?_
  intro p e s m args below meth c F ls hC hx0 hr hk hl hE
  have hx := hC.1.1; have hb := hC.1.2.1; have hml := hC.1.2.2.1; have hts := hC.1.2.2.2.2
  have hown : s.vm.findClass RX6 = some m.cls := hC.1.2.2.2.1
  have hl : lv_has ls 2 [(0, .ref (a 0)), (1, .int x1)] := hl
  unfold V_X6_cellOf at hv
  refine lv_aload_n hx hb dX6_cellOf_0 rfl (lv_at hl 0 rfl) ?_
  refine lv_iload_n hx hb dX6_cellOf_1 rfl (lv_at hl 1 rfl) ?_
  refine T_callVTv hC hx0 hk (c_X6_requireUnit l hfl D cs az a x1 g _ _ hv) (cwV 1 hts gX6_cellOf_X6_requireUnit rfl rfl rfl (by decide +kernel) ⟨Nat.le_of_ble_eq_true rfl, Nat.le_of_ble_eq_true rfl⟩) f_game rfl rfl hl rfl (Nat.le_of_ble_eq_true rfl) dX6_cellOf_2 hE (Nat.le_of_ble_eq_true rfl) (Nat.le_of_ble_eq_true rfl) (Nat.le_of_ble_eq_true rfl) (Nat.le_of_ble_eq_true rfl) (fun g1 H locs hv hE => ?_)
  refine W.widen (k := 1) (n := 6) (Nat.le_of_ble_eq_true rfl) (Nat.le_of_ble_eq_true rfl) ?_
  refine lv_aload_n hx hb dX6_cellOf_5 rfl (lv_at hl 0 rfl) ?_
  refine G_get (v := .ref (a 1)) hC hE (fun _ h => List.mem_cons_of_mem _ (List.mem_append_left _ (List.mem_append_left _ (List.mem_append_left _ (List.mem_append_left _ (List.mem_append_right _ h)))))) f_game rfl 0 (by decide) (hts (.fieldLink RX6 10 "SeedBattle" "field" "LSeedBattle$Field;") (List.mem_of_getElem? (i := 1) rfl)) rfl dX6_cellOf_6 ?_
  refine G_getN (v := .ref (a 4)) hC hE (fun _ h => List.mem_cons_of_mem _ (List.mem_append_left _ (List.mem_append_left _ (List.mem_append_left _ (List.mem_append_right _ h))))) (f_field (w := 0) (by decide)) rfl 1 (by decide) (List.mem_of_getElem? (i := 4) rfl) rfl dX6_cellOf_9 ?_
  refine lv_iload_n hx hb dX6_cellOf_12 rfl (lv_at hl 1 rfl) ?_
  refine T_callVi hC (c_X5_place l D cs az a (w := 0) (by decide) x1 g1 _ hv) (cwV 1 hts gX6_cellOf_X5_place rfl rfl rfl (by decide +kernel) ⟨Nat.le_of_ble_eq_true rfl, Nat.le_of_ble_eq_true rfl⟩) (f_units (w := 0) (by decide)) rfl rfl hl rfl (Nat.le_of_ble_eq_true rfl) dX6_cellOf_13 hE (Nat.le_of_ble_eq_true rfl) (Nat.le_of_ble_eq_true rfl) (fun r3 g2 H locs hv hE => ?_)
  exact T_zret hC hr hk hE rfl hv dX6_cellOf_16 (Nat.le_of_ble_eq_true rfl) (Nat.le_of_ble_eq_true rfl)
def V_X6_unitOn (x1 : Int32) (g : St) (post : Int32 → St → Prop) (px : String → St → Prop) : Prop := V_X6_requireCell x1 g (fun g1 => V_X5_on 0 x1 g1 (fun r3 g2 => post r3 g2)) px
abbrev rm_X6_unitOn : Room := { frames := 7, cells := 4, slots := 24, locals := 110 }
set_option maxHeartbeats 4000000 in
set_option maxRecDepth 100000 in
theorem c_X6_unitOn (l : Launch) (hfl : l.flags = flags0) (D : va_G) (cs az a : Nat → Nat) (x1 : Int32) (g : St) (post : Int32 → St → Prop) (px : String → St → Prop) (hv : V_X6_unitOn x1 g post px) : uTi l yX6_unitOn wsX6_unitOn rm_X6_unitOn D cs az (gW cs a) [.ref (a 0), .int x1] g 4 24 post px := by
  refine u_ofTi (cc := cX6_unitOn) (maxL := 2) (by decide) rfl (Nat.le_of_ble_eq_true rfl) ?_
  intro p e s m args below meth c F ls hC hx0 hr hk hl hE
  have hx := hC.1.1; have hb := hC.1.2.1; have hml := hC.1.2.2.1; have hts := hC.1.2.2.2.2
  have hown : s.vm.findClass RX6 = some m.cls := hC.1.2.2.2.1
  have hl : lv_has ls 2 [(0, .ref (a 0)), (1, .int x1)] := hl
  unfold V_X6_unitOn at hv
  refine lv_iload_n hx hb dX6_unitOn_0 rfl (lv_at hl 1 rfl) ?_
  refine T_callSTv hC hx0 hk (c_X6_requireCell l hfl D cs az a x1 g _ _ hv) (cwS 1 hts gX6_unitOn_X6_requireCell rfl rfl rfl (by decide +kernel) ⟨Nat.le_of_ble_eq_true rfl, Nat.le_of_ble_eq_true rfl⟩) rfl hl rfl (Nat.le_of_ble_eq_true rfl) dX6_unitOn_1 hE (Nat.le_of_ble_eq_true rfl) (Nat.le_of_ble_eq_true rfl) (Nat.le_of_ble_eq_true rfl) (Nat.le_of_ble_eq_true rfl) (fun g1 H locs hv hE => ?_)
  refine W.widen (k := 1) (n := 6) (Nat.le_of_ble_eq_true rfl) (Nat.le_of_ble_eq_true rfl) ?_
  refine lv_aload_n hx hb dX6_unitOn_4 rfl (lv_at hl 0 rfl) ?_
  refine G_get (v := .ref (a 1)) hC hE (fun _ h => List.mem_cons_of_mem _ (List.mem_append_left _ (List.mem_append_left _ (List.mem_append_left _ (List.mem_append_left _ (List.mem_append_right _ h)))))) f_game rfl 0 (by decide) (hts (.fieldLink RX6 10 "SeedBattle" "field" "LSeedBattle$Field;") (List.mem_of_getElem? (i := 1) rfl)) rfl dX6_unitOn_5 ?_
  refine G_getN (v := .ref (a 4)) hC hE (fun _ h => List.mem_cons_of_mem _ (List.mem_append_left _ (List.mem_append_left _ (List.mem_append_left _ (List.mem_append_right _ h))))) (f_field (w := 0) (by decide)) rfl 1 (by decide) (List.mem_of_getElem? (i := 4) rfl) rfl dX6_unitOn_8 ?_
  refine lv_iload_n hx hb dX6_unitOn_11 rfl (lv_at hl 1 rfl) ?_
  refine T_callVi hC (c_X5_on l D cs az a (w := 0) (by decide) x1 g1 _ hv) (cwV 1 hts gX6_unitOn_X5_on rfl rfl rfl (by decide +kernel) ⟨Nat.le_of_ble_eq_true rfl, Nat.le_of_ble_eq_true rfl⟩) (f_units (w := 0) (by decide)) rfl rfl hl rfl (Nat.le_of_ble_eq_true rfl) dX6_unitOn_12 hE (Nat.le_of_ble_eq_true rfl) (Nat.le_of_ble_eq_true rfl) (fun r3 g2 H locs hv hE => ?_)
  exact T_zret hC hr hk hE rfl hv dX6_unitOn_15 (Nat.le_of_ble_eq_true rfl) (Nat.le_of_ble_eq_true rfl)
def V_X6_sees (x1 : Int32) (x2 : Int32) (g : St) (post : Int32 → St → Prop) (px : String → St → Prop) : Prop := V_X6_requireUnit x1 g (fun g1 => V_X6_requireCell x2 g1 (fun g2 => V_X1_unitSpots 0 x1 x2 g2 (fun r4 g3 => (narrow .boolean (.int r4) = .int r4) ∧ post r4 g3)) px) px
abbrev rm_X6_sees : Room := { frames := 7, cells := 4, slots := 24, locals := 111 }
set_option maxHeartbeats 4000000 in
set_option maxRecDepth 100000 in
theorem c_X6_sees (l : Launch) (hfl : l.flags = flags0) (D : va_G) (cs az a : Nat → Nat) (x1 : Int32) (x2 : Int32) (g : St) (post : Int32 → St → Prop) (px : String → St → Prop) (hv : V_X6_sees x1 x2 g post px) : uTi l yX6_sees wsX6_sees rm_X6_sees D cs az (gW cs a) [.ref (a 0), .int x1, .int x2] g 4 24 post px := by
  refine u_ofTi (cc := cX6_sees) (maxL := 3) (by decide) rfl (Nat.le_of_ble_eq_true rfl) ?_
  intro p e s m args below meth c F ls hC hx0 hr hk hl hE
  have hx := hC.1.1; have hb := hC.1.2.1; have hml := hC.1.2.2.1; have hts := hC.1.2.2.2.2
  have hown : s.vm.findClass RX6 = some m.cls := hC.1.2.2.2.1
  have hl : lv_has ls 3 [(0, .ref (a 0)), (1, .int x1), (2, .int x2)] := hl
  unfold V_X6_sees at hv
  refine lv_aload_n hx hb dX6_sees_0 rfl (lv_at hl 0 rfl) ?_
  refine lv_iload_n hx hb dX6_sees_1 rfl (lv_at hl 1 rfl) ?_
  refine T_callVTv hC hx0 hk (c_X6_requireUnit l hfl D cs az a x1 g _ _ hv) (cwV 1 hts gX6_sees_X6_requireUnit rfl rfl rfl (by decide +kernel) ⟨Nat.le_of_ble_eq_true rfl, Nat.le_of_ble_eq_true rfl⟩) f_game rfl rfl hl rfl (Nat.le_of_ble_eq_true rfl) dX6_sees_2 hE (Nat.le_of_ble_eq_true rfl) (Nat.le_of_ble_eq_true rfl) (Nat.le_of_ble_eq_true rfl) (Nat.le_of_ble_eq_true rfl) (fun g1 H locs hv hE => ?_)
  refine W.widen (k := 1) (n := 6) (Nat.le_of_ble_eq_true rfl) (Nat.le_of_ble_eq_true rfl) ?_
  refine lv_iload_n hx hb dX6_sees_5 rfl (lv_at hl 2 rfl) ?_
  refine T_callSTv hC hx0 hk (c_X6_requireCell l hfl D cs az a x2 g1 _ _ hv) (cwS 1 hts gX6_sees_X6_requireCell rfl rfl rfl (by decide +kernel) ⟨Nat.le_of_ble_eq_true rfl, Nat.le_of_ble_eq_true rfl⟩) rfl hl rfl (Nat.le_of_ble_eq_true rfl) dX6_sees_6 hE (Nat.le_of_ble_eq_true rfl) (Nat.le_of_ble_eq_true rfl) (Nat.le_of_ble_eq_true rfl) (Nat.le_of_ble_eq_true rfl) (fun g2 H locs hv hE => ?_)
  refine W.widen (k := 2) (n := 12) (Nat.le_of_ble_eq_true rfl) (Nat.le_of_ble_eq_true rfl) ?_
  refine lv_aload_n hx hb dX6_sees_9 rfl (lv_at hl 0 rfl) ?_
  refine G_get (v := .ref (a 1)) hC hE (fun _ h => List.mem_cons_of_mem _ (List.mem_append_left _ (List.mem_append_left _ (List.mem_append_left _ (List.mem_append_left _ (List.mem_append_left _ (List.mem_append_left _ (List.mem_append_right _ h)))))))) f_game rfl 0 (by decide) (hts (.fieldLink RX6 10 "SeedBattle" "field" "LSeedBattle$Field;") (List.mem_of_getElem? (i := 1) rfl)) rfl dX6_sees_10 ?_
  refine lv_iload_n hx hb dX6_sees_13 rfl (lv_at hl 1 rfl) ?_
  refine lv_iload_n hx hb dX6_sees_14 rfl (lv_at hl 2 rfl) ?_
  refine T_callVi hC (c_X1_unitSpots l D cs az a (w := 0) (by decide) x1 x2 g2 _ hv) (cwV 2 hts gX6_sees_X1_unitSpots rfl rfl rfl (by decide +kernel) ⟨Nat.le_of_ble_eq_true rfl, Nat.le_of_ble_eq_true rfl⟩) (f_field (w := 0) (by decide)) rfl rfl hl rfl (Nat.le_of_ble_eq_true rfl) dX6_sees_15 hE (Nat.le_of_ble_eq_true rfl) (Nat.le_of_ble_eq_true rfl) (fun r4 g3 H locs hv hE => ?_)
  exact T_zret hC hr hk hE hv.1 hv.2 dX6_sees_18 (Nat.le_of_ble_eq_true rfl) (Nat.le_of_ble_eq_true rfl)
def J_X6_seen_29 (x1 : Int32) (post : Int32 → St → Prop) (px : String → St → Prop) (K8 : (Int32 × Int32 × Int32 × St) → Prop) (v1 : Int32) (v2 : Int32) (v3 : Int32) (g : St) : Prop := K8 (v1, v2, (v3 + 1), g)
def J_X6_seen_8 (x1 : Int32) (post : Int32 → St → Prop) (px : String → St → Prop) (K8 : (Int32 × Int32 × Int32 × St) → Prop) (v1 : Int32) (v2 : Int32) (v3 : Int32) (g : St) : Prop := ((64 ≤ v3 → post v2 g) ∧ (¬ 64 ≤ v3 → V_X1_playerSpots 0 v1 v3 g (fun r3 g2 => ((r3 = 0 → J_X6_seen_29 x1 post px K8 v1 v2 v3 g2) ∧ (¬ r3 = 0 → J_X6_seen_29 x1 post px K8 v1 (v2 + 1) v3 g2)))))
def V_X6_seen (x1 : Int32) (g : St) (post : Int32 → St → Prop) (px : String → St → Prop) : Prop := V_X6_requirePlayer x1 g (fun g1 => lpP (fun K8 (z : Int32 × Int32 × Int32 × St) => J_X6_seen_8 x1 post px K8 z.1 z.2.1 z.2.2.1 z.2.2.2) (x1, 0, 0, g1)) px
abbrev rm_X6_seen : Room := { frames := 7, cells := 4, slots := 24, locals := 121 }
set_option maxHeartbeats 4000000 in
set_option maxRecDepth 100000 in
theorem c_X6_seen (l : Launch) (hfl : l.flags = flags0) (D : va_G) (cs az a : Nat → Nat) (x1 : Int32) (g : St) (post : Int32 → St → Prop) (px : String → St → Prop) (hv : V_X6_seen x1 g post px) : uTi l yX6_seen wsX6_seen rm_X6_seen D cs az (gW cs a) [.ref (a 0), .int x1] g 4 24 post px := by
  refine u_ofTi (cc := cX6_seen) (maxL := 4) (by decide) rfl (Nat.le_of_ble_eq_true rfl) ?_
  intro p e s m args below meth c F ls hC hx0 hr hk hl hE
  have hx := hC.1.1; have hb := hC.1.2.1; have hml := hC.1.2.2.1; have hts := hC.1.2.2.2.2
  have hown : s.vm.findClass RX6 = some m.cls := hC.1.2.2.2.1
  have hl : lv_has ls 4 [(0, .ref (a 0)), (1, .int x1)] := hl
  unfold V_X6_seen at hv
  have j_29 : ∀ (K8 : (Int32 × Int32 × Int32 × St) → Prop), (∀ (v1 : Int32) (v2 : Int32) (v3 : Int32) (g : St), K8 (v1, v2, v3, g) → ∀ (H : Heap) (locs : List Loc) (ls : Array Slot), uE D 52 gA (gO cs a) cs a F s g H locs → lv_has ls 4 [(0, .ref (a 0)), (1, .int v1), (2, .int v2), (3, .int v3)] → W p l e rm_X6_seen s m args below meth c H locs 1 6 (vx_MQ below (va_Qi post (uB D (uW 52 gA (gO cs a) cs a)) F) (uX9 D (uW 52 gA (gO cs a) cs a) px F) args s 4 24 F) (F0 m 8 ls [])) → ∀ (v1 : Int32) (v2 : Int32) (v3 : Int32) (g : St), J_X6_seen_29 x1 post px K8 v1 v2 v3 g → ∀ (H : Heap) (locs : List Loc) (ls : Array Slot), uE D 52 gA (gO cs a) cs a F s g H locs → lv_has ls 4 [(0, .ref (a 0)), (1, .int v1), (2, .int v2), (3, .int v3)] → W p l e rm_X6_seen s m args below meth c H locs 1 6 (vx_MQ below (va_Qi post (uB D (uW 52 gA (gO cs a) cs a)) F) (uX9 D (uW 52 gA (gO cs a) cs a) px F) args s 4 24 F) (F0 m 29 ls []) := by
    intro K8 hK8 v1 v2 v3 g  hv
    intro H locs ls hE hl
    unfold J_X6_seen_29 at hv
    refine lv_iinc (v := (v3 + 1)) (lv' := [(3, .int (v3 + 1)), (0, .ref (a 0)), (1, .int v1), (2, .int v2)]) hx hb dX6_seen_29 hl (k := 3) rfl rfl (by decide) rfl (fun ls hl => ?_)
    refine lv_goto (tgt := 8) hx hb dX6_seen_32 (by decide) ?_
    exact hK8 _ _ _ _  hv _ _ _ hE (lv_sub hl [1, 2, 3, 0] rfl)
  have j_8 : ∀ (v1 : Int32) (v2 : Int32) (v3 : Int32) (g : St), lpP (fun K8 (z : Int32 × Int32 × Int32 × St) => J_X6_seen_8 x1 post px K8 z.1 z.2.1 z.2.2.1 z.2.2.2) (v1, v2, v3, g) → ∀ (H : Heap) (locs : List Loc) (ls : Array Slot), uE D 52 gA (gO cs a) cs a F s g H locs → lv_has ls 4 [(0, .ref (a 0)), (1, .int v1), (2, .int v2), (3, .int v3)] → W p l e rm_X6_seen s m args below meth c H locs 1 6 (vx_MQ below (va_Qi post (uB D (uW 52 gA (gO cs a) cs a)) F) (uX9 D (uW 52 gA (gO cs a) cs a) px F) args s 4 24 F) (F0 m 8 ls []) := by
    intro  v1 v2 v3 g  hv
    obtain ⟨nn, hv⟩ := hv
    induction nn generalizing v1 v2 v3 g with
    | zero => exact False.elim hv
    | succ nn hK8 =>
      intro H locs ls hE hl
      have hv : J_X6_seen_8 x1 post px (itP _ nn) v1 v2 v3 g := hv
      unfold J_X6_seen_8 at hv
      refine lv_iload_n hx hb dX6_seen_8 rfl (lv_at hl 3 rfl) ?_
      refine lv_bipush (v := 64) hx hb dX6_seen_9 (by decide) ?_
      refine lv_icmp_ge (tgt := 35) hx hb dX6_seen_11 (by decide) (fun c => ?_) (fun c => ?_)
      · have hv := hv.1 c
        refine lv_iload_n hx hb dX6_seen_35 rfl (lv_at hl 2 rfl) ?_
        exact T_zret hC hr hk hE rfl hv dX6_seen_36 (Nat.le_of_ble_eq_true rfl) (Nat.le_of_ble_eq_true rfl)
      · have hv := hv.2 c
        refine lv_aload_n hx hb dX6_seen_14 rfl (lv_at hl 0 rfl) ?_
        refine G_get (v := .ref (a 1)) hC hE (fun _ h => List.mem_cons_of_mem _ (List.mem_append_left _ (List.mem_append_left _ (List.mem_append_left _ (List.mem_append_left _ (List.mem_append_left _ (List.mem_append_left _ (List.mem_append_right _ h)))))))) f_game rfl 0 (by decide) (hts (.fieldLink RX6 10 "SeedBattle" "field" "LSeedBattle$Field;") (List.mem_of_getElem? (i := 1) rfl)) rfl dX6_seen_15 ?_
        refine lv_iload_n hx hb dX6_seen_18 rfl (lv_at hl 1 rfl) ?_
        refine lv_iload_n hx hb dX6_seen_19 rfl (lv_at hl 3 rfl) ?_
        refine T_callVi hC (c_X1_playerSpots l D cs az a (w := 0) (by decide) v1 v3 g _ hv) (cwV 2 hts gX6_seen_X1_playerSpots rfl rfl rfl (by decide +kernel) ⟨Nat.le_of_ble_eq_true rfl, Nat.le_of_ble_eq_true rfl⟩) (f_field (w := 0) (by decide)) rfl rfl hl rfl (Nat.le_of_ble_eq_true rfl) dX6_seen_20 hE (Nat.le_of_ble_eq_true rfl) (Nat.le_of_ble_eq_true rfl) (fun r3 g2 H locs hv hE => ?_)
        refine lv_if_eq (tgt := 29) hx hb dX6_seen_23 (by decide) (fun c => ?_) (fun c => ?_)
        · have hv := hv.1 c
          exact j_29 _ hK8 _ _ _ _  hv _ _ _ hE (lv_sub hl [0, 1, 2, 3] rfl)
        · have hv := hv.2 c
          refine lv_iinc (v := (v2 + 1)) (lv' := [(2, .int (v2 + 1)), (0, .ref (a 0)), (1, .int v1), (3, .int v3)]) hx hb dX6_seen_26 hl (k := 2) rfl rfl (by decide) rfl (fun ls hl => ?_)
          exact j_29 _ hK8 _ _ _ _  hv _ _ _ hE (lv_sub hl [1, 2, 0, 3] rfl)
  refine lv_iload_n hx hb dX6_seen_0 rfl (lv_at hl 1 rfl) ?_
  refine T_callSTv hC hx0 hk (c_X6_requirePlayer l hfl D cs az a x1 g _ _ hv) (cwS 1 hts gX6_seen_X6_requirePlayer rfl rfl rfl (by decide +kernel) ⟨Nat.le_of_ble_eq_true rfl, Nat.le_of_ble_eq_true rfl⟩) rfl hl rfl (Nat.le_of_ble_eq_true rfl) dX6_seen_1 hE (Nat.le_of_ble_eq_true rfl) (Nat.le_of_ble_eq_true rfl) (Nat.le_of_ble_eq_true rfl) (Nat.le_of_ble_eq_true rfl) (fun g1 H locs hv hE => ?_)
  refine W.widen (k := 1) (n := 6) (Nat.le_of_ble_eq_true rfl) (Nat.le_of_ble_eq_true rfl) ?_
  refine lv_iconst (v := 0) hx hb dX6_seen_4 (by decide) ?_
  refine lv_istore_n (lv' := [(2, .int 0), (0, .ref (a 0)), (1, .int x1)]) hx hb dX6_seen_5 rfl hl (by decide) rfl (fun ls hl => ?_)
  refine lv_iconst (v := 0) hx hb dX6_seen_6 (by decide) ?_
  refine lv_istore_n (lv' := [(3, .int 0), (2, .int 0), (0, .ref (a 0)), (1, .int x1)]) hx hb dX6_seen_7 rfl hl (by decide) rfl (fun ls hl => ?_)
  exact j_8  _ _ _ _  hv _ _ _ hE (lv_sub hl [2, 3, 1, 0] rfl)
def V_X6_setTreaty (x1 : Int32) (x2 : Int32) (x3 : Int32) (g : St) (post : Int32 → St → Prop) (px : String → St → Prop) : Prop := V_X6_requirePlayer x1 g (fun g1 => V_X6_requirePlayer x2 g1 (fun g2 => ((¬ x1 = x2 → V_X6_hasTreaty x1 x2 g2 (fun r4 g3 => ((x3 = 0 → ((r4 = 0 → (narrow .boolean (.int r4) = .int r4) ∧ post r4 g3) ∧ (¬ r4 = 0 → vp_in x1 4 ∧ (vp_in x1 4 ∧ (vp_in x2 4 ∧ (vp_in x2 4 ∧ (vp_in x1 4 ∧ (V_X0_endTreaty (Int32.toNatClampNeg x1) x2 (sA (sA g3 26 (upd (g3.1 26) (Int32.toNatClampNeg x1) ((g3.1 26 (Int32.toNatClampNeg x1)) &&& ((1 <<< (x2 &&& 31)) ^^^ (-1))))) 26 (upd ((sA g3 26 (upd (g3.1 26) (Int32.toNatClampNeg x1) ((g3.1 26 (Int32.toNatClampNeg x1)) &&& ((1 <<< (x2 &&& 31)) ^^^ (-1))))).1 26) (Int32.toNatClampNeg x2) (((sA g3 26 (upd (g3.1 26) (Int32.toNatClampNeg x1) ((g3.1 26 (Int32.toNatClampNeg x1)) &&& ((1 <<< (x2 &&& 31)) ^^^ (-1))))).1 26 (Int32.toNatClampNeg x2)) &&& ((1 <<< (x1 &&& 31)) ^^^ (-1))))) (fun g6 => vp_in x2 4 ∧ (V_X0_endTreaty (Int32.toNatClampNeg x2) x1 g6 (fun g8 => (narrow .boolean (.int r4) = .int r4) ∧ post r4 g8))))))))))) ∧ (¬ x3 = 0 → vp_in x1 4 ∧ (vp_in x1 4 ∧ (vp_in x2 4 ∧ (vp_in x2 4 ∧ ((narrow .boolean (.int r4) = .int r4) ∧ post r4 (sA (sA g3 26 (upd (g3.1 26) (Int32.toNatClampNeg x1) ((g3.1 26 (Int32.toNatClampNeg x1)) ||| (1 <<< (x2 &&& 31))))) 26 (upd ((sA g3 26 (upd (g3.1 26) (Int32.toNatClampNeg x1) ((g3.1 26 (Int32.toNatClampNeg x1)) ||| (1 <<< (x2 &&& 31))))).1 26) (Int32.toNatClampNeg x2) (((sA g3 26 (upd (g3.1 26) (Int32.toNatClampNeg x1) ((g3.1 26 (Int32.toNatClampNeg x1)) ||| (1 <<< (x2 &&& 31))))).1 26 (Int32.toNatClampNeg x2)) ||| (1 <<< (x1 &&& 31))))))))))))) ∧ (x1 = x2 → px "java/lang/IllegalArgumentException" g2))) px) px
abbrev rm_X6_setTreaty : Room := { frames := 7, cells := 4, slots := 24, locals := 110 }
set_option maxHeartbeats 4000000 in
set_option maxRecDepth 100000 in
theorem c_X6_setTreaty (l : Launch) (hfl : l.flags = flags0) (D : va_G) (cs az a : Nat → Nat) (x1 : Int32) (x2 : Int32) (x3 : Int32) (g : St) (post : Int32 → St → Prop) (px : String → St → Prop) (hv : V_X6_setTreaty x1 x2 x3 g post px) : uTi l yX6_setTreaty wsX6_setTreaty rm_X6_setTreaty D cs az (gW cs a) [.ref (a 0), .int x1, .int x2, .int x3] g 4 24 post px := by
  refine u_ofTi (cc := cX6_setTreaty) (maxL := 5) (by decide) rfl (Nat.le_of_ble_eq_true rfl) ?_
  intro p e s m args below meth c F ls hC hx0 hr hk hl hE
  have hx := hC.1.1; have hb := hC.1.2.1; have hml := hC.1.2.2.1; have hts := hC.1.2.2.2.2
  have hown : s.vm.findClass RX6 = some m.cls := hC.1.2.2.2.1
  have hl : lv_has ls 5 [(0, .ref (a 0)), (1, .int x1), (2, .int x2), (3, .int x3)] := hl
  unfold V_X6_setTreaty at hv
  refine lv_iload_n hx hb dX6_setTreaty_0 rfl (lv_at hl 1 rfl) ?_
  refine T_callSTv hC hx0 hk (c_X6_requirePlayer l hfl D cs az a x1 g _ _ hv) (cwS 1 hts gX6_setTreaty_X6_requirePlayer rfl rfl rfl (by decide +kernel) ⟨Nat.le_of_ble_eq_true rfl, Nat.le_of_ble_eq_true rfl⟩) rfl hl rfl (Nat.le_of_ble_eq_true rfl) dX6_setTreaty_1 hE (Nat.le_of_ble_eq_true rfl) (Nat.le_of_ble_eq_true rfl) (Nat.le_of_ble_eq_true rfl) (Nat.le_of_ble_eq_true rfl) (fun g1 H locs hv hE => ?_)
  refine W.widen (k := 1) (n := 6) (Nat.le_of_ble_eq_true rfl) (Nat.le_of_ble_eq_true rfl) ?_
  refine lv_iload_n hx hb dX6_setTreaty_4 rfl (lv_at hl 2 rfl) ?_
  refine T_callSTv hC hx0 hk (c_X6_requirePlayer l hfl D cs az a x2 g1 _ _ hv) (cwS 1 hts gX6_setTreaty_X6_requirePlayer rfl rfl rfl (by decide +kernel) ⟨Nat.le_of_ble_eq_true rfl, Nat.le_of_ble_eq_true rfl⟩) rfl hl rfl (Nat.le_of_ble_eq_true rfl) dX6_setTreaty_5 hE (Nat.le_of_ble_eq_true rfl) (Nat.le_of_ble_eq_true rfl) (Nat.le_of_ble_eq_true rfl) (Nat.le_of_ble_eq_true rfl) (fun g2 H locs hv hE => ?_)
  refine W.widen (k := 2) (n := 12) (Nat.le_of_ble_eq_true rfl) (Nat.le_of_ble_eq_true rfl) ?_
  refine lv_iload_n hx hb dX6_setTreaty_8 rfl (lv_at hl 1 rfl) ?_
  refine lv_iload_n hx hb dX6_setTreaty_9 rfl (lv_at hl 2 rfl) ?_
  refine lv_icmp_ne (tgt := 23) hx hb dX6_setTreaty_10 (by decide) (fun c => ?_) (fun c => ?_)
  · have hv := hv.1 c
    refine lv_aload_n hx hb dX6_setTreaty_23 rfl (lv_at hl 0 rfl) ?_
    refine lv_iload_n hx hb dX6_setTreaty_24 rfl (lv_at hl 1 rfl) ?_
    refine lv_iload_n hx hb dX6_setTreaty_25 rfl (lv_at hl 2 rfl) ?_
    refine T_callVi hC (c_X6_hasTreaty l D cs az a x1 x2 g2 _ hv) (cwV 2 hts gX6_setTreaty_X6_hasTreaty rfl rfl rfl (by decide +kernel) ⟨Nat.le_of_ble_eq_true rfl, Nat.le_of_ble_eq_true rfl⟩) f_game rfl rfl hl rfl (Nat.le_of_ble_eq_true rfl) dX6_setTreaty_26 hE (Nat.le_of_ble_eq_true rfl) (Nat.le_of_ble_eq_true rfl) (fun r4 g3 H locs hv hE => ?_)
    refine lv_istore (lv' := [(4, .int r4), (0, .ref (a 0)), (1, .int x1), (2, .int x2), (3, .int x3)]) hx hb dX6_setTreaty_29 hl (by decide) rfl (fun ls hl => ?_)
    refine lv_iload_n hx hb dX6_setTreaty_31 rfl (lv_at hl 4 rfl) ?_
    refine lv_if_eq (tgt := 62) hx hb dX6_setTreaty_32 (by decide) (fun c => ?_) (fun c => ?_)
    · have hv := hv.1 c
      refine lv_iload hx hb dX6_setTreaty_62 (lv_at hl 0 rfl) ?_
      refine lv_if_eq (tgt := 115) hx hb dX6_setTreaty_64 (by decide) (fun c => ?_) (fun c => ?_)
      · have hv := hv.1 c
        refine lv_iload hx hb dX6_setTreaty_115 (lv_at hl 0 rfl) ?_
        exact T_zret hC hr hk hE hv.1 hv.2 dX6_setTreaty_117 (Nat.le_of_ble_eq_true rfl) (Nat.le_of_ble_eq_true rfl)
      · have hv := hv.2 c
        refine lv_aload_n hx hb dX6_setTreaty_67 rfl (lv_at hl 1 rfl) ?_
        refine G_get (v := .ref (a 26)) hC hE (fun _ h => List.mem_cons_of_mem _ (List.mem_append_left _ (List.mem_append_left _ (List.mem_append_left _ (List.mem_append_left _ (List.mem_append_right _ h)))))) f_game rfl 5 (by decide) (hts (.fieldLink RX6 38 "SeedBattle" "treaties" "[I") (List.mem_of_getElem? (i := 3) rfl)) rfl dX6_setTreaty_68 ?_
        refine lv_iload_n hx hb dX6_setTreaty_71 rfl (lv_at hl 2 rfl) ?_
        refine lv_dup2_11 hx hb dX6_setTreaty_72 rfl rfl ?_
        refine G_iald hC hE f_treaties hv.1 dX6_setTreaty_73 ?_
        have hv := hv.2
        refine lv_iconst (v := 1) hx hb dX6_setTreaty_74 (by decide) ?_
        refine lv_iload_n hx hb dX6_setTreaty_75 rfl (lv_at hl 3 rfl) ?_
        refine lv_ishl hx hb dX6_setTreaty_76 ?_
        refine lv_iconst (v := (-1)) hx hb dX6_setTreaty_77 (by decide) ?_
        refine lv_ixor hx hb dX6_setTreaty_78 ?_
        refine lv_iand hx hb dX6_setTreaty_79 ?_
        refine G_iast hC hE f_treaties hv.1 dX6_setTreaty_80 (fun H locs hE => ?_)
        have hv := hv.2
        refine lv_aload_n hx hb dX6_setTreaty_81 rfl (lv_at hl 1 rfl) ?_
        refine G_get (v := .ref (a 26)) hC hE (fun _ h => List.mem_cons_of_mem _ (List.mem_append_left _ (List.mem_append_left _ (List.mem_append_left _ (List.mem_append_left _ (List.mem_append_right _ h)))))) f_game rfl 5 (by decide) (hts (.fieldLink RX6 38 "SeedBattle" "treaties" "[I") (List.mem_of_getElem? (i := 3) rfl)) rfl dX6_setTreaty_82 ?_
        refine lv_iload_n hx hb dX6_setTreaty_85 rfl (lv_at hl 3 rfl) ?_
        refine lv_dup2_11 hx hb dX6_setTreaty_86 rfl rfl ?_
        refine G_iald hC hE f_treaties hv.1 dX6_setTreaty_87 ?_
        have hv := hv.2
        refine lv_iconst (v := 1) hx hb dX6_setTreaty_88 (by decide) ?_
        refine lv_iload_n hx hb dX6_setTreaty_89 rfl (lv_at hl 2 rfl) ?_
        refine lv_ishl hx hb dX6_setTreaty_90 ?_
        refine lv_iconst (v := (-1)) hx hb dX6_setTreaty_91 (by decide) ?_
        refine lv_ixor hx hb dX6_setTreaty_92 ?_
        refine lv_iand hx hb dX6_setTreaty_93 ?_
        refine G_iast hC hE f_treaties hv.1 dX6_setTreaty_94 (fun H locs hE => ?_)
        have hv := hv.2
        refine lv_aload_n hx hb dX6_setTreaty_95 rfl (lv_at hl 1 rfl) ?_
        refine G_get (v := .ref (a 25)) hC hE (fun _ h => List.mem_cons_of_mem _ (List.mem_append_left _ (List.mem_append_left _ (List.mem_append_left _ (List.mem_append_left _ (List.mem_append_right _ h)))))) f_game rfl 4 (by decide) (hts (.fieldLink RX6 34 "SeedBattle" "copies" "[LSeedBattle$Copy;") (List.mem_of_getElem? (i := 4) rfl)) rfl dX6_setTreaty_96 ?_
        refine lv_iload_n hx hb dX6_setTreaty_99 rfl (lv_at hl 2 rfl) ?_
        have hq5 := vp_lt hv.1
        refine G_aald hC hE f_cpys (t := 4) rfl hv.1 dX6_setTreaty_100 ?_
        have hv := hv.2
        refine lv_iload_n hx hb dX6_setTreaty_101 rfl (lv_at hl 3 rfl) ?_
        refine T_callVv hC (c_X0_endTreaty l D cs az a (ix := (Int32.toNatClampNeg x1)) hq5 x2 (sA (sA g3 26 (upd (g3.1 26) (Int32.toNatClampNeg x1) ((g3.1 26 (Int32.toNatClampNeg x1)) &&& ((1 <<< (x2 &&& 31)) ^^^ (-1))))) 26 (upd ((sA g3 26 (upd (g3.1 26) (Int32.toNatClampNeg x1) ((g3.1 26 (Int32.toNatClampNeg x1)) &&& ((1 <<< (x2 &&& 31)) ^^^ (-1))))).1 26) (Int32.toNatClampNeg x2) (((sA g3 26 (upd (g3.1 26) (Int32.toNatClampNeg x1) ((g3.1 26 (Int32.toNatClampNeg x1)) &&& ((1 <<< (x2 &&& 31)) ^^^ (-1))))).1 26 (Int32.toNatClampNeg x2)) &&& ((1 <<< (x1 &&& 31)) ^^^ (-1))))) _ hv) (cwV 1 hts gX6_setTreaty_X0_endTreaty rfl rfl rfl (by decide +kernel) ⟨Nat.le_of_ble_eq_true rfl, Nat.le_of_ble_eq_true rfl⟩) (f_copy hq5) rfl rfl hl rfl (Nat.le_of_ble_eq_true rfl) dX6_setTreaty_102 hE (Nat.le_of_ble_eq_true rfl) (Nat.le_of_ble_eq_true rfl) (fun g6 H locs hv hE => ?_)
        refine lv_aload_n hx hb dX6_setTreaty_105 rfl (lv_at hl 1 rfl) ?_
        refine G_get (v := .ref (a 25)) hC hE (fun _ h => List.mem_cons_of_mem _ (List.mem_append_left _ (List.mem_append_left _ (List.mem_append_left _ (List.mem_append_left _ (List.mem_append_right _ h)))))) f_game rfl 4 (by decide) (hts (.fieldLink RX6 34 "SeedBattle" "copies" "[LSeedBattle$Copy;") (List.mem_of_getElem? (i := 4) rfl)) rfl dX6_setTreaty_106 ?_
        refine lv_iload_n hx hb dX6_setTreaty_109 rfl (lv_at hl 3 rfl) ?_
        have hq7 := vp_lt hv.1
        refine G_aald hC hE f_cpys (t := 4) rfl hv.1 dX6_setTreaty_110 ?_
        have hv := hv.2
        refine lv_iload_n hx hb dX6_setTreaty_111 rfl (lv_at hl 2 rfl) ?_
        refine T_callVv hC (c_X0_endTreaty l D cs az a (ix := (Int32.toNatClampNeg x2)) hq7 x1 g6 _ hv) (cwV 1 hts gX6_setTreaty_X0_endTreaty rfl rfl rfl (by decide +kernel) ⟨Nat.le_of_ble_eq_true rfl, Nat.le_of_ble_eq_true rfl⟩) (f_copy hq7) rfl rfl hl rfl (Nat.le_of_ble_eq_true rfl) dX6_setTreaty_112 hE (Nat.le_of_ble_eq_true rfl) (Nat.le_of_ble_eq_true rfl) (fun g8 H locs hv hE => ?_)
        refine lv_iload hx hb dX6_setTreaty_115 (lv_at hl 0 rfl) ?_
        exact T_zret hC hr hk hE hv.1 hv.2 dX6_setTreaty_117 (Nat.le_of_ble_eq_true rfl) (Nat.le_of_ble_eq_true rfl)
    · have hv := hv.2 c
      refine lv_aload_n hx hb dX6_setTreaty_35 rfl (lv_at hl 1 rfl) ?_
      refine G_get (v := .ref (a 26)) hC hE (fun _ h => List.mem_cons_of_mem _ (List.mem_append_left _ (List.mem_append_left _ (List.mem_append_left _ (List.mem_append_left _ (List.mem_append_right _ h)))))) f_game rfl 5 (by decide) (hts (.fieldLink RX6 38 "SeedBattle" "treaties" "[I") (List.mem_of_getElem? (i := 3) rfl)) rfl dX6_setTreaty_36 ?_
      refine lv_iload_n hx hb dX6_setTreaty_39 rfl (lv_at hl 2 rfl) ?_
      refine lv_dup2_11 hx hb dX6_setTreaty_40 rfl rfl ?_
      refine G_iald hC hE f_treaties hv.1 dX6_setTreaty_41 ?_
      have hv := hv.2
      refine lv_iconst (v := 1) hx hb dX6_setTreaty_42 (by decide) ?_
      refine lv_iload_n hx hb dX6_setTreaty_43 rfl (lv_at hl 3 rfl) ?_
      refine lv_ishl hx hb dX6_setTreaty_44 ?_
      refine lv_ior hx hb dX6_setTreaty_45 ?_
      refine G_iast hC hE f_treaties hv.1 dX6_setTreaty_46 (fun H locs hE => ?_)
      have hv := hv.2
      refine lv_aload_n hx hb dX6_setTreaty_47 rfl (lv_at hl 1 rfl) ?_
      refine G_get (v := .ref (a 26)) hC hE (fun _ h => List.mem_cons_of_mem _ (List.mem_append_left _ (List.mem_append_left _ (List.mem_append_left _ (List.mem_append_left _ (List.mem_append_right _ h)))))) f_game rfl 5 (by decide) (hts (.fieldLink RX6 38 "SeedBattle" "treaties" "[I") (List.mem_of_getElem? (i := 3) rfl)) rfl dX6_setTreaty_48 ?_
      refine lv_iload_n hx hb dX6_setTreaty_51 rfl (lv_at hl 3 rfl) ?_
      refine lv_dup2_11 hx hb dX6_setTreaty_52 rfl rfl ?_
      refine G_iald hC hE f_treaties hv.1 dX6_setTreaty_53 ?_
      have hv := hv.2
      refine lv_iconst (v := 1) hx hb dX6_setTreaty_54 (by decide) ?_
      refine lv_iload_n hx hb dX6_setTreaty_55 rfl (lv_at hl 2 rfl) ?_
      refine lv_ishl hx hb dX6_setTreaty_56 ?_
      refine lv_ior hx hb dX6_setTreaty_57 ?_
      refine G_iast hC hE f_treaties hv.1 dX6_setTreaty_58 (fun H locs hE => ?_)
      have hv := hv.2
      refine lv_goto (tgt := 115) hx hb dX6_setTreaty_59 (by decide) ?_
      refine lv_iload hx hb dX6_setTreaty_115 (lv_at hl 0 rfl) ?_
      exact T_zret hC hr hk hE hv.1 hv.2 dX6_setTreaty_117 (Nat.le_of_ble_eq_true rfl) (Nat.le_of_ble_eq_true rfl)
  · have hv := hv.2 c
    exact T_throw (px := px) hfl hC hx0 hk hE hl (cls := "java/lang/IllegalArgumentException") (text := "both players are the same") (by decide +kernel) (hts (.classLink RX6 95 "java/lang/IllegalArgumentException") (List.mem_of_getElem? (i := 1) rfl)) (hts (.initialized "java/lang/IllegalArgumentException") (List.mem_of_getElem? (i := 2) rfl)) (by decide +kernel) (fun _ h => List.mem_cons_of_mem _ (List.mem_append_left _ (List.mem_append_left _ (List.mem_append_right _ h)))) (by decide +kernel) (by decide +kernel) dX6_setTreaty_13 dX6_setTreaty_16 dX6_setTreaty_17 dX6_setTreaty_19 dX6_setTreaty_22 (Nat.le_of_ble_eq_true rfl) (Nat.le_of_ble_eq_true rfl) (Nat.le_of_ble_eq_true rfl) (Nat.le_of_ble_eq_true rfl) hv (Nat.le_of_ble_eq_true rfl) (Nat.le_of_ble_eq_true rfl)
def V_X6_sightings (x1 : Int32) (g : St) (post : Int32 → St → Prop) (px : String → St → Prop) : Prop := V_X6_requirePlayer x1 g (fun g1 => vp_in x1 4 ∧ (post (g1.2 (10 + (Int32.toNatClampNeg x1))) g1)) px
abbrev rm_X6_sightings : Room := { frames := 7, cells := 4, slots := 24, locals := 110 }
set_option maxHeartbeats 4000000 in
set_option maxRecDepth 100000 in
theorem c_X6_sightings (l : Launch) (hfl : l.flags = flags0) (D : va_G) (cs az a : Nat → Nat) (x1 : Int32) (g : St) (post : Int32 → St → Prop) (px : String → St → Prop) (hv : V_X6_sightings x1 g post px) : uTi l yX6_sightings wsX6_sightings rm_X6_sightings D cs az (gW cs a) [.ref (a 0), .int x1] g 4 24 post px := by
  refine u_ofTi (cc := cX6_sightings) (maxL := 2) (by decide) rfl (Nat.le_of_ble_eq_true rfl) ?_
  intro p e s m args below meth c F ls hC hx0 hr hk hl hE
  have hx := hC.1.1; have hb := hC.1.2.1; have hml := hC.1.2.2.1; have hts := hC.1.2.2.2.2
  have hown : s.vm.findClass RX6 = some m.cls := hC.1.2.2.2.1
  have hl : lv_has ls 2 [(0, .ref (a 0)), (1, .int x1)] := hl
  unfold V_X6_sightings at hv
  refine lv_iload_n hx hb dX6_sightings_0 rfl (lv_at hl 1 rfl) ?_
  refine T_callSTv hC hx0 hk (c_X6_requirePlayer l hfl D cs az a x1 g _ _ hv) (cwS 1 hts gX6_sightings_X6_requirePlayer rfl rfl rfl (by decide +kernel) ⟨Nat.le_of_ble_eq_true rfl, Nat.le_of_ble_eq_true rfl⟩) rfl hl rfl (Nat.le_of_ble_eq_true rfl) dX6_sightings_1 hE (Nat.le_of_ble_eq_true rfl) (Nat.le_of_ble_eq_true rfl) (Nat.le_of_ble_eq_true rfl) (Nat.le_of_ble_eq_true rfl) (fun g1 H locs hv hE => ?_)
  refine W.widen (k := 1) (n := 6) (Nat.le_of_ble_eq_true rfl) (Nat.le_of_ble_eq_true rfl) ?_
  refine lv_aload_n hx hb dX6_sightings_4 rfl (lv_at hl 0 rfl) ?_
  refine G_get (v := .ref (a 24)) hC hE (fun _ h => List.mem_cons_of_mem _ (List.mem_append_left _ (List.mem_append_left _ (List.mem_append_right _ h)))) f_game rfl 3 (by decide) (hts (.fieldLink RX6 28 "SeedBattle" "indexes" "[LSeedBattle$Index;") (List.mem_of_getElem? (i := 1) rfl)) rfl dX6_sightings_5 ?_
  refine lv_iload_n hx hb dX6_sightings_8 rfl (lv_at hl 1 rfl) ?_
  have hq2 := vp_lt hv.1
  refine G_aald hC hE f_idxs (t := 3) rfl hv.1 dX6_sightings_9 ?_
  have hv := hv.2
  refine G_getN (v := .int (g1.2 (10 + (Int32.toNatClampNeg x1)))) hC hE (fun _ h => List.mem_cons_of_mem _ (List.mem_append_left _ (List.mem_append_right _ h))) (f_index hq2) rfl 1 (by decide) (List.mem_of_getElem? (i := 0) rfl) rfl dX6_sightings_10 ?_
  exact T_zret hC hr hk hE rfl hv dX6_sightings_13 (Nat.le_of_ble_eq_true rfl) (Nat.le_of_ble_eq_true rfl)
def J_X6_sighting_21 (x1 : Int32) (x2 : Int32) (x3 : Int32) (post : Int32 → St → Prop) (px : String → St → Prop)   (g : St) : Prop := px "java/lang/IndexOutOfBoundsException" g
def V_X6_sighting (x1 : Int32) (x2 : Int32) (x3 : Int32) (g : St) (post : Int32 → St → Prop) (px : String → St → Prop) : Prop := V_X6_requirePlayer x1 g (fun g1 => ((x2 < 0 → J_X6_sighting_21 x1 x2 x3 post px g1) ∧ (¬ x2 < 0 → vp_in x1 4 ∧ (((x2 < (g1.2 (10 + (Int32.toNatClampNeg x1))) → vp_in x1 4 ∧ (V_X2_at (Int32.toNatClampNeg x1) x2 g1 (fun r5 g4 => ((x3 = 99 → V_X6_placeOf r5 (fun r6 => post r6 g4)) ∧ (¬ x3 = 99 → ((x3 = 116 → V_X6_turnOf r5 (fun r7 => post r7 g4)) ∧ (¬ x3 = 116 → ((x3 = 117 → V_X6_unitOf r5 (fun r8 => post r8 g4)) ∧ (¬ x3 = 117 → px "java/lang/IllegalArgumentException" g4))))))))) ∧ (¬ x2 < (g1.2 (10 + (Int32.toNatClampNeg x1))) → J_X6_sighting_21 x1 x2 x3 post px g1)))))) px
abbrev rm_X6_sighting : Room := { frames := 7, cells := 4, slots := 24, locals := 110 }
set_option maxHeartbeats 4000000 in
set_option maxRecDepth 100000 in
theorem c_X6_sighting (l : Launch) (hfl : l.flags = flags0) (D : va_G) (cs az a : Nat → Nat) (x1 : Int32) (x2 : Int32) (x3 : Int32) (g : St) (post : Int32 → St → Prop) (px : String → St → Prop) (hv : V_X6_sighting x1 x2 x3 g post px) : uTi l yX6_sighting wsX6_sighting rm_X6_sighting D cs az (gW cs a) [.ref (a 0), .int x1, .int x2, .int x3] g 4 24 post px := by
  refine u_ofTi (cc := cX6_sighting) (maxL := 5) (by decide) rfl (Nat.le_of_ble_eq_true rfl) ?_
  intro p e s m args below meth c F ls hC hx0 hr hk hl hE
  have hx := hC.1.1; have hb := hC.1.2.1; have hml := hC.1.2.2.1; have hts := hC.1.2.2.2.2
  have hown : s.vm.findClass RX6 = some m.cls := hC.1.2.2.2.1
  have hl : lv_has ls 5 [(0, .ref (a 0)), (1, .int x1), (2, .int x2), (3, .int x3)] := hl
  unfold V_X6_sighting at hv
  have j_21 : ∀  (g : St), J_X6_sighting_21 x1 x2 x3 post px g → ∀ (H : Heap) (locs : List Loc) (ls : Array Slot), uE D 52 gA (gO cs a) cs a F s g H locs → lv_has ls 5 [] → W p l e rm_X6_sighting s m args below meth c H locs 1 6 (vx_MQ below (va_Qi post (uB D (uW 52 gA (gO cs a) cs a)) F) (uX9 D (uW 52 gA (gO cs a) cs a) px F) args s 4 24 F) (F0 m 21 ls []) := by
    intro  g  hv
    intro H locs ls hE hl
    unfold J_X6_sighting_21 at hv
    exact T_throw (px := px) hfl hC hx0 hk hE hl (cls := "java/lang/IndexOutOfBoundsException") (text := "no such index") (by decide +kernel) (hts (.classLink RX6 171 "java/lang/IndexOutOfBoundsException") (List.mem_of_getElem? (i := 1) rfl)) (hts (.initialized "java/lang/IndexOutOfBoundsException") (List.mem_of_getElem? (i := 2) rfl)) (by decide +kernel) (fun _ h => List.mem_cons_of_mem _ (List.mem_append_left _ (List.mem_append_left _ (List.mem_append_right _ h)))) (by decide +kernel) (by decide +kernel) dX6_sighting_21 dX6_sighting_24 dX6_sighting_25 dX6_sighting_27 dX6_sighting_30 (Nat.le_of_ble_eq_true rfl) (Nat.le_of_ble_eq_true rfl) (Nat.le_of_ble_eq_true rfl) (Nat.le_of_ble_eq_true rfl) hv (Nat.le_of_ble_eq_true rfl) (Nat.le_of_ble_eq_true rfl)
  refine lv_iload_n hx hb dX6_sighting_0 rfl (lv_at hl 1 rfl) ?_
  refine T_callSTv hC hx0 hk (c_X6_requirePlayer l hfl D cs az a x1 g _ _ hv) (cwS 1 hts gX6_sighting_X6_requirePlayer rfl rfl rfl (by decide +kernel) ⟨Nat.le_of_ble_eq_true rfl, Nat.le_of_ble_eq_true rfl⟩) rfl hl rfl (Nat.le_of_ble_eq_true rfl) dX6_sighting_1 hE (Nat.le_of_ble_eq_true rfl) (Nat.le_of_ble_eq_true rfl) (Nat.le_of_ble_eq_true rfl) (Nat.le_of_ble_eq_true rfl) (fun g1 H locs hv hE => ?_)
  refine W.widen (k := 1) (n := 6) (Nat.le_of_ble_eq_true rfl) (Nat.le_of_ble_eq_true rfl) ?_
  refine lv_iload_n hx hb dX6_sighting_4 rfl (lv_at hl 2 rfl) ?_
  refine lv_if_lt (tgt := 21) hx hb dX6_sighting_5 (by decide) (fun c => ?_) (fun c => ?_)
  · have hv := hv.1 c
    exact j_21  _  hv _ _ _ hE (lv_sub hl [] rfl)
  · have hv := hv.2 c
    refine lv_iload_n hx hb dX6_sighting_8 rfl (lv_at hl 2 rfl) ?_
    refine lv_aload_n hx hb dX6_sighting_9 rfl (lv_at hl 0 rfl) ?_
    refine G_get (v := .ref (a 24)) hC hE (fun _ h => List.mem_cons_of_mem _ (List.mem_append_left _ (List.mem_append_left _ (List.mem_append_left _ (List.mem_append_left _ (List.mem_append_right _ h)))))) f_game rfl 3 (by decide) (hts (.fieldLink RX6 28 "SeedBattle" "indexes" "[LSeedBattle$Index;") (List.mem_of_getElem? (i := 5) rfl)) rfl dX6_sighting_10 ?_
    refine lv_iload_n hx hb dX6_sighting_13 rfl (lv_at hl 1 rfl) ?_
    have hq2 := vp_lt hv.1
    refine G_aald hC hE f_idxs (t := 3) rfl hv.1 dX6_sighting_14 ?_
    have hv := hv.2
    refine G_getN (v := .int (g1.2 (10 + (Int32.toNatClampNeg x1)))) hC hE (fun _ h => List.mem_cons_of_mem _ (List.mem_append_left _ (List.mem_append_left _ (List.mem_append_left _ (List.mem_append_right _ h))))) (f_index hq2) rfl 1 (by decide) (List.mem_of_getElem? (i := 0) rfl) rfl dX6_sighting_15 ?_
    refine lv_icmp_lt (tgt := 31) hx hb dX6_sighting_18 (by decide) (fun c => ?_) (fun c => ?_)
    · have hv := hv.1 c
      refine lv_aload_n hx hb dX6_sighting_31 rfl (lv_at hl 0 rfl) ?_
      refine G_get (v := .ref (a 24)) hC hE (fun _ h => List.mem_cons_of_mem _ (List.mem_append_left _ (List.mem_append_left _ (List.mem_append_left _ (List.mem_append_left _ (List.mem_append_right _ h)))))) f_game rfl 3 (by decide) (hts (.fieldLink RX6 28 "SeedBattle" "indexes" "[LSeedBattle$Index;") (List.mem_of_getElem? (i := 5) rfl)) rfl dX6_sighting_32 ?_
      refine lv_iload_n hx hb dX6_sighting_35 rfl (lv_at hl 1 rfl) ?_
      have hq3 := vp_lt hv.1
      refine G_aald hC hE f_idxs (t := 3) rfl hv.1 dX6_sighting_36 ?_
      have hv := hv.2
      refine lv_iload_n hx hb dX6_sighting_37 rfl (lv_at hl 2 rfl) ?_
      refine T_callVi hC (c_X2_at l D cs az a (ix := (Int32.toNatClampNeg x1)) hq3 x2 g1 _ hv) (cwV 1 hts gX6_sighting_X2_at rfl rfl rfl (by decide +kernel) ⟨Nat.le_of_ble_eq_true rfl, Nat.le_of_ble_eq_true rfl⟩) (f_index hq3) rfl rfl hl rfl (Nat.le_of_ble_eq_true rfl) dX6_sighting_38 hE (Nat.le_of_ble_eq_true rfl) (Nat.le_of_ble_eq_true rfl) (fun r5 g4 H locs hv hE => ?_)
      refine lv_istore (lv' := [(4, .int r5), (0, .ref (a 0)), (1, .int x1), (2, .int x2), (3, .int x3)]) hx hb dX6_sighting_41 hl (by decide) rfl (fun ls hl => ?_)
      refine lv_iload_n hx hb dX6_sighting_43 rfl (lv_at hl 4 rfl) ?_
      by_cases c0 : x3 = 99
      · have hv := hv.1 c0
        refine lv_lookup (off := 42) (tgt := 86) hx hb dX6_sighting_44 (by decide) (by rw [c0]; decide) (by decide) ?_
        refine lv_iload hx hb dX6_sighting_86 (lv_at hl 0 rfl) ?_
        refine G_callSs hC.1 hC.2.2.2.2.1 (c_X6_placeOf l r5 _ hv) (va_cwS 1 hts gX6_sighting_X6_placeOf rfl rfl rfl (by decide +kernel) ⟨Nat.le_of_ble_eq_true rfl, Nat.le_of_ble_eq_true rfl⟩) rfl hl rfl (Nat.le_of_ble_eq_true rfl) dX6_sighting_88 (Nat.le_of_ble_eq_true rfl) (Nat.le_of_ble_eq_true rfl) (fun r6 hv => ?_)
        exact T_zret hC hr hk hE rfl hv dX6_sighting_91 (Nat.le_of_ble_eq_true rfl) (Nat.le_of_ble_eq_true rfl)
      · have hv := hv.2 c0
        by_cases c1 : x3 = 116
        · have hv := hv.1 c1
          refine lv_lookup (off := 36) (tgt := 80) hx hb dX6_sighting_44 (by decide) (by rw [c1]; decide) (by decide) ?_
          refine lv_iload hx hb dX6_sighting_80 (lv_at hl 0 rfl) ?_
          refine G_callSs hC.1 hC.2.2.2.2.1 (c_X6_turnOf l r5 _ hv) (va_cwS 1 hts gX6_sighting_X6_turnOf rfl rfl rfl (by decide +kernel) ⟨Nat.le_of_ble_eq_true rfl, Nat.le_of_ble_eq_true rfl⟩) rfl hl rfl (Nat.le_of_ble_eq_true rfl) dX6_sighting_82 (Nat.le_of_ble_eq_true rfl) (Nat.le_of_ble_eq_true rfl) (fun r7 hv => ?_)
          exact T_zret hC hr hk hE rfl hv dX6_sighting_85 (Nat.le_of_ble_eq_true rfl) (Nat.le_of_ble_eq_true rfl)
        · have hv := hv.2 c1
          by_cases c2 : x3 = 117
          · have hv := hv.1 c2
            refine lv_lookup (off := 48) (tgt := 92) hx hb dX6_sighting_44 (by decide) (by rw [c2]; decide) (by decide) ?_
            refine lv_iload hx hb dX6_sighting_92 (lv_at hl 0 rfl) ?_
            refine G_callSs hC.1 hC.2.2.2.2.1 (c_X6_unitOf l r5 _ hv) (va_cwS 1 hts gX6_sighting_X6_unitOf rfl rfl rfl (by decide +kernel) ⟨Nat.le_of_ble_eq_true rfl, Nat.le_of_ble_eq_true rfl⟩) rfl hl rfl (Nat.le_of_ble_eq_true rfl) dX6_sighting_94 (Nat.le_of_ble_eq_true rfl) (Nat.le_of_ble_eq_true rfl) (fun r8 hv => ?_)
            exact T_zret hC hr hk hE rfl hv dX6_sighting_97 (Nat.le_of_ble_eq_true rfl) (Nat.le_of_ble_eq_true rfl)
          · have hv := hv.2 c2
            refine lv_lookup (off := 54) (tgt := 98) hx hb dX6_sighting_44 (by decide) (sw_none3 c0 c1 c2) (by decide) ?_
            exact T_throw (px := px) hfl hC hx0 hk hE hl (cls := "java/lang/IllegalArgumentException") (text := "no such thing") (by decide +kernel) (hts (.classLink RX6 95 "java/lang/IllegalArgumentException") (List.mem_of_getElem? (i := 3) rfl)) (hts (.initialized "java/lang/IllegalArgumentException") (List.mem_of_getElem? (i := 4) rfl)) (by decide +kernel) (fun _ h => List.mem_cons_of_mem _ (List.mem_append_left _ (List.mem_append_right _ h))) (by decide +kernel) (by decide +kernel) dX6_sighting_98 dX6_sighting_101 dX6_sighting_102 dX6_sighting_104 dX6_sighting_107 (Nat.le_of_ble_eq_true rfl) (Nat.le_of_ble_eq_true rfl) (Nat.le_of_ble_eq_true rfl) (Nat.le_of_ble_eq_true rfl) hv (Nat.le_of_ble_eq_true rfl) (Nat.le_of_ble_eq_true rfl)
    · have hv := hv.2 c
      exact j_21  _  hv _ _ _ hE (lv_sub hl [] rfl)
def V_X6_age (x1 : Int32) (x2 : Int32) (g : St) (post : Int32 → St → Prop) (px : String → St → Prop) : Prop := V_X6_requirePlayer x1 g (fun g1 => V_X6_requireCell x2 g1 (fun g2 => vp_in x1 4 ∧ (V_X2_latestOnCell (Int32.toNatClampNeg x1) x2 g2 (fun r5 g4 => ((¬ r5 = (-1) → V_X6_turnOf r5 (fun r6 => post ((g4.2 1) - r6) g4)) ∧ (r5 = (-1) → px "java/util/NoSuchElementException" g4))))) px) px
abbrev rm_X6_age : Room := { frames := 7, cells := 4, slots := 24, locals := 110 }
set_option maxHeartbeats 4000000 in
set_option maxRecDepth 100000 in
theorem c_X6_age (l : Launch) (hfl : l.flags = flags0) (D : va_G) (cs az a : Nat → Nat) (x1 : Int32) (x2 : Int32) (g : St) (post : Int32 → St → Prop) (px : String → St → Prop) (hv : V_X6_age x1 x2 g post px) : uTi l yX6_age wsX6_age rm_X6_age D cs az (gW cs a) [.ref (a 0), .int x1, .int x2] g 4 24 post px := by
  refine u_ofTi (cc := cX6_age) (maxL := 4) (by decide) rfl (Nat.le_of_ble_eq_true rfl) ?_
  intro p e s m args below meth c F ls hC hx0 hr hk hl hE
  have hx := hC.1.1; have hb := hC.1.2.1; have hml := hC.1.2.2.1; have hts := hC.1.2.2.2.2
  have hown : s.vm.findClass RX6 = some m.cls := hC.1.2.2.2.1
  have hl : lv_has ls 4 [(0, .ref (a 0)), (1, .int x1), (2, .int x2)] := hl
  unfold V_X6_age at hv
  refine lv_iload_n hx hb dX6_age_0 rfl (lv_at hl 1 rfl) ?_
  refine T_callSTv hC hx0 hk (c_X6_requirePlayer l hfl D cs az a x1 g _ _ hv) (cwS 1 hts gX6_age_X6_requirePlayer rfl rfl rfl (by decide +kernel) ⟨Nat.le_of_ble_eq_true rfl, Nat.le_of_ble_eq_true rfl⟩) rfl hl rfl (Nat.le_of_ble_eq_true rfl) dX6_age_1 hE (Nat.le_of_ble_eq_true rfl) (Nat.le_of_ble_eq_true rfl) (Nat.le_of_ble_eq_true rfl) (Nat.le_of_ble_eq_true rfl) (fun g1 H locs hv hE => ?_)
  refine W.widen (k := 1) (n := 6) (Nat.le_of_ble_eq_true rfl) (Nat.le_of_ble_eq_true rfl) ?_
  refine lv_iload_n hx hb dX6_age_4 rfl (lv_at hl 2 rfl) ?_
  refine T_callSTv hC hx0 hk (c_X6_requireCell l hfl D cs az a x2 g1 _ _ hv) (cwS 1 hts gX6_age_X6_requireCell rfl rfl rfl (by decide +kernel) ⟨Nat.le_of_ble_eq_true rfl, Nat.le_of_ble_eq_true rfl⟩) rfl hl rfl (Nat.le_of_ble_eq_true rfl) dX6_age_5 hE (Nat.le_of_ble_eq_true rfl) (Nat.le_of_ble_eq_true rfl) (Nat.le_of_ble_eq_true rfl) (Nat.le_of_ble_eq_true rfl) (fun g2 H locs hv hE => ?_)
  refine W.widen (k := 2) (n := 12) (Nat.le_of_ble_eq_true rfl) (Nat.le_of_ble_eq_true rfl) ?_
  refine lv_aload_n hx hb dX6_age_8 rfl (lv_at hl 0 rfl) ?_
  refine G_get (v := .ref (a 24)) hC hE (fun _ h => List.mem_cons_of_mem _ (List.mem_append_left _ (List.mem_append_left _ (List.mem_append_left _ (List.mem_append_left _ (List.mem_append_right _ h)))))) f_game rfl 3 (by decide) (hts (.fieldLink RX6 28 "SeedBattle" "indexes" "[LSeedBattle$Index;") (List.mem_of_getElem? (i := 3) rfl)) rfl dX6_age_9 ?_
  refine lv_iload_n hx hb dX6_age_12 rfl (lv_at hl 1 rfl) ?_
  have hq3 := vp_lt hv.1
  refine G_aald hC hE f_idxs (t := 3) rfl hv.1 dX6_age_13 ?_
  have hv := hv.2
  refine lv_iload_n hx hb dX6_age_14 rfl (lv_at hl 2 rfl) ?_
  refine T_callVi hC (c_X2_latestOnCell l D cs az a (ix := (Int32.toNatClampNeg x1)) hq3 x2 g2 _ hv) (cwV 1 hts gX6_age_X2_latestOnCell rfl rfl rfl (by decide +kernel) ⟨Nat.le_of_ble_eq_true rfl, Nat.le_of_ble_eq_true rfl⟩) (f_index hq3) rfl rfl hl rfl (Nat.le_of_ble_eq_true rfl) dX6_age_15 hE (Nat.le_of_ble_eq_true rfl) (Nat.le_of_ble_eq_true rfl) (fun r5 g4 H locs hv hE => ?_)
  refine lv_istore_n (lv' := [(3, .int r5), (0, .ref (a 0)), (1, .int x1), (2, .int x2)]) hx hb dX6_age_18 rfl hl (by decide) rfl (fun ls hl => ?_)
  refine lv_iload_n hx hb dX6_age_19 rfl (lv_at hl 0 rfl) ?_
  refine lv_iconst (v := (-1)) hx hb dX6_age_20 (by decide) ?_
  refine lv_icmp_ne (tgt := 34) hx hb dX6_age_21 (by decide) (fun c => ?_) (fun c => ?_)
  · have hv := hv.1 c
    refine lv_aload_n hx hb dX6_age_34 rfl (lv_at hl 1 rfl) ?_
    refine G_get (v := .int (g4.2 1)) hC hE (fun _ h => List.mem_cons_of_mem _ (List.mem_append_left _ (List.mem_append_left _ (List.mem_append_left _ (List.mem_append_left _ (List.mem_append_right _ h)))))) f_game rfl 8 (by decide) (hts (.fieldLink RX6 108 "SeedBattle" "turnsDone" "I") (List.mem_of_getElem? (i := 4) rfl)) rfl dX6_age_35 ?_
    refine lv_iload_n hx hb dX6_age_38 rfl (lv_at hl 0 rfl) ?_
    refine G_callSs hC.1 hC.2.2.2.2.1 (c_X6_turnOf l r5 _ hv) (va_cwS 1 hts gX6_age_X6_turnOf rfl rfl rfl (by decide +kernel) ⟨Nat.le_of_ble_eq_true rfl, Nat.le_of_ble_eq_true rfl⟩) rfl hl rfl (Nat.le_of_ble_eq_true rfl) dX6_age_39 (Nat.le_of_ble_eq_true rfl) (Nat.le_of_ble_eq_true rfl) (fun r6 hv => ?_)
    refine lv_isub hx hb dX6_age_42 ?_
    exact T_zret hC hr hk hE rfl hv dX6_age_43 (Nat.le_of_ble_eq_true rfl) (Nat.le_of_ble_eq_true rfl)
  · have hv := hv.2 c
    exact T_throwN (px := px) hfl hC hx0 hk hE hl (cls := "java/util/NoSuchElementException") (text := "no sighting on this cell") (by decide +kernel) (hts (.classLink RX6 192 "java/util/NoSuchElementException") (List.mem_of_getElem? (i := 1) rfl)) (hts (.initialized "java/util/NoSuchElementException") (List.mem_of_getElem? (i := 2) rfl)) (by decide +kernel) (fun _ h => List.mem_cons_of_mem _ (List.mem_append_left _ (List.mem_append_left _ (List.mem_append_right _ h)))) (by decide +kernel) (by decide +kernel) dX6_age_24 dX6_age_27 dX6_age_28 dX6_age_30 dX6_age_33 (Nat.le_of_ble_eq_true rfl) (Nat.le_of_ble_eq_true rfl) (Nat.le_of_ble_eq_true rfl) (Nat.le_of_ble_eq_true rfl) hv (Nat.le_of_ble_eq_true rfl) (Nat.le_of_ble_eq_true rfl)
def V_X6_lastSeen (x1 : Int32) (x2 : Int32) (g : St) (post : Int32 → St → Prop) (px : String → St → Prop) : Prop := V_X6_requirePlayer x1 g (fun g1 => V_X6_requireUnit x2 g1 (fun g2 => vp_in x1 4 ∧ (V_X2_latestOfUnit (Int32.toNatClampNeg x1) x2 g2 (fun r5 g4 => ((¬ r5 = (-1) → V_X6_placeOf r5 (fun r6 => post r6 g4)) ∧ (r5 = (-1) → px "java/util/NoSuchElementException" g4))))) px) px
abbrev rm_X6_lastSeen : Room := { frames := 7, cells := 4, slots := 24, locals := 111 }
set_option maxHeartbeats 4000000 in
set_option maxRecDepth 100000 in
theorem c_X6_lastSeen (l : Launch) (hfl : l.flags = flags0) (D : va_G) (cs az a : Nat → Nat) (x1 : Int32) (x2 : Int32) (g : St) (post : Int32 → St → Prop) (px : String → St → Prop) (hv : V_X6_lastSeen x1 x2 g post px) : uTi l yX6_lastSeen wsX6_lastSeen rm_X6_lastSeen D cs az (gW cs a) [.ref (a 0), .int x1, .int x2] g 4 24 post px := by
  refine u_ofTi (cc := cX6_lastSeen) (maxL := 4) (by decide) rfl (Nat.le_of_ble_eq_true rfl) ?_
  intro p e s m args below meth c F ls hC hx0 hr hk hl hE
  have hx := hC.1.1; have hb := hC.1.2.1; have hml := hC.1.2.2.1; have hts := hC.1.2.2.2.2
  have hown : s.vm.findClass RX6 = some m.cls := hC.1.2.2.2.1
  have hl : lv_has ls 4 [(0, .ref (a 0)), (1, .int x1), (2, .int x2)] := hl
  unfold V_X6_lastSeen at hv
  refine lv_iload_n hx hb dX6_lastSeen_0 rfl (lv_at hl 1 rfl) ?_
  refine T_callSTv hC hx0 hk (c_X6_requirePlayer l hfl D cs az a x1 g _ _ hv) (cwS 1 hts gX6_lastSeen_X6_requirePlayer rfl rfl rfl (by decide +kernel) ⟨Nat.le_of_ble_eq_true rfl, Nat.le_of_ble_eq_true rfl⟩) rfl hl rfl (Nat.le_of_ble_eq_true rfl) dX6_lastSeen_1 hE (Nat.le_of_ble_eq_true rfl) (Nat.le_of_ble_eq_true rfl) (Nat.le_of_ble_eq_true rfl) (Nat.le_of_ble_eq_true rfl) (fun g1 H locs hv hE => ?_)
  refine W.widen (k := 1) (n := 6) (Nat.le_of_ble_eq_true rfl) (Nat.le_of_ble_eq_true rfl) ?_
  refine lv_aload_n hx hb dX6_lastSeen_4 rfl (lv_at hl 0 rfl) ?_
  refine lv_iload_n hx hb dX6_lastSeen_5 rfl (lv_at hl 2 rfl) ?_
  refine T_callVTv hC hx0 hk (c_X6_requireUnit l hfl D cs az a x2 g1 _ _ hv) (cwV 1 hts gX6_lastSeen_X6_requireUnit rfl rfl rfl (by decide +kernel) ⟨Nat.le_of_ble_eq_true rfl, Nat.le_of_ble_eq_true rfl⟩) f_game rfl rfl hl rfl (Nat.le_of_ble_eq_true rfl) dX6_lastSeen_6 hE (Nat.le_of_ble_eq_true rfl) (Nat.le_of_ble_eq_true rfl) (Nat.le_of_ble_eq_true rfl) (Nat.le_of_ble_eq_true rfl) (fun g2 H locs hv hE => ?_)
  refine W.widen (k := 2) (n := 12) (Nat.le_of_ble_eq_true rfl) (Nat.le_of_ble_eq_true rfl) ?_
  refine lv_aload_n hx hb dX6_lastSeen_9 rfl (lv_at hl 0 rfl) ?_
  refine G_get (v := .ref (a 24)) hC hE (fun _ h => List.mem_cons_of_mem _ (List.mem_append_left _ (List.mem_append_left _ (List.mem_append_left _ (List.mem_append_left _ (List.mem_append_left _ (List.mem_append_left _ (List.mem_append_right _ h)))))))) f_game rfl 3 (by decide) (hts (.fieldLink RX6 28 "SeedBattle" "indexes" "[LSeedBattle$Index;") (List.mem_of_getElem? (i := 3) rfl)) rfl dX6_lastSeen_10 ?_
  refine lv_iload_n hx hb dX6_lastSeen_13 rfl (lv_at hl 1 rfl) ?_
  have hq3 := vp_lt hv.1
  refine G_aald hC hE f_idxs (t := 3) rfl hv.1 dX6_lastSeen_14 ?_
  have hv := hv.2
  refine lv_iload_n hx hb dX6_lastSeen_15 rfl (lv_at hl 2 rfl) ?_
  refine T_callVi hC (c_X2_latestOfUnit l D cs az a (ix := (Int32.toNatClampNeg x1)) hq3 x2 g2 _ hv) (cwV 1 hts gX6_lastSeen_X2_latestOfUnit rfl rfl rfl (by decide +kernel) ⟨Nat.le_of_ble_eq_true rfl, Nat.le_of_ble_eq_true rfl⟩) (f_index hq3) rfl rfl hl rfl (Nat.le_of_ble_eq_true rfl) dX6_lastSeen_16 hE (Nat.le_of_ble_eq_true rfl) (Nat.le_of_ble_eq_true rfl) (fun r5 g4 H locs hv hE => ?_)
  refine lv_istore_n (lv' := [(3, .int r5), (0, .ref (a 0)), (1, .int x1), (2, .int x2)]) hx hb dX6_lastSeen_19 rfl hl (by decide) rfl (fun ls hl => ?_)
  refine lv_iload_n hx hb dX6_lastSeen_20 rfl (lv_at hl 0 rfl) ?_
  refine lv_iconst (v := (-1)) hx hb dX6_lastSeen_21 (by decide) ?_
  refine lv_icmp_ne (tgt := 35) hx hb dX6_lastSeen_22 (by decide) (fun c => ?_) (fun c => ?_)
  · have hv := hv.1 c
    refine lv_iload_n hx hb dX6_lastSeen_35 rfl (lv_at hl 0 rfl) ?_
    refine G_callSs hC.1 hC.2.2.2.2.1 (c_X6_placeOf l r5 _ hv) (va_cwS 1 hts gX6_lastSeen_X6_placeOf rfl rfl rfl (by decide +kernel) ⟨Nat.le_of_ble_eq_true rfl, Nat.le_of_ble_eq_true rfl⟩) rfl hl rfl (Nat.le_of_ble_eq_true rfl) dX6_lastSeen_36 (Nat.le_of_ble_eq_true rfl) (Nat.le_of_ble_eq_true rfl) (fun r6 hv => ?_)
    exact T_zret hC hr hk hE rfl hv dX6_lastSeen_39 (Nat.le_of_ble_eq_true rfl) (Nat.le_of_ble_eq_true rfl)
  · have hv := hv.2 c
    exact T_throwN (px := px) hfl hC hx0 hk hE hl (cls := "java/util/NoSuchElementException") (text := "no sighting of this unit") (by decide +kernel) (hts (.classLink RX6 192 "java/util/NoSuchElementException") (List.mem_of_getElem? (i := 1) rfl)) (hts (.initialized "java/util/NoSuchElementException") (List.mem_of_getElem? (i := 2) rfl)) (by decide +kernel) (fun _ h => List.mem_cons_of_mem _ (List.mem_append_left _ (List.mem_append_left _ (List.mem_append_right _ h)))) (by decide +kernel) (by decide +kernel) dX6_lastSeen_25 dX6_lastSeen_28 dX6_lastSeen_29 dX6_lastSeen_31 dX6_lastSeen_34 (Nat.le_of_ble_eq_true rfl) (Nat.le_of_ble_eq_true rfl) (Nat.le_of_ble_eq_true rfl) (Nat.le_of_ble_eq_true rfl) hv (Nat.le_of_ble_eq_true rfl) (Nat.le_of_ble_eq_true rfl)
def V_X6_blocks (x1 : Int32) (g : St) (post : Int32 → St → Prop) (px : String → St → Prop) : Prop := V_X6_requirePlayer x1 g (fun g1 => V_X6_requireSave g1 (fun g2 => vp_in x1 4 ∧ (V_X0_blockCount (Int32.toNatClampNeg x1) g2 (fun r5 g4 => post r5 g4))) px) px
abbrev rm_X6_blocks : Room := { frames := 7, cells := 4, slots := 24, locals := 110 }
set_option maxHeartbeats 4000000 in
set_option maxRecDepth 100000 in
theorem c_X6_blocks (l : Launch) (hfl : l.flags = flags0) (D : va_G) (cs az a : Nat → Nat) (x1 : Int32) (g : St) (post : Int32 → St → Prop) (px : String → St → Prop) (hv : V_X6_blocks x1 g post px) : uTi l yX6_blocks wsX6_blocks rm_X6_blocks D cs az (gW cs a) [.ref (a 0), .int x1] g 4 24 post px := by
  refine u_ofTi (cc := cX6_blocks) (maxL := 2) (by decide) rfl (Nat.le_of_ble_eq_true rfl) ?_
  intro p e s m args below meth c F ls hC hx0 hr hk hl hE
  have hx := hC.1.1; have hb := hC.1.2.1; have hml := hC.1.2.2.1; have hts := hC.1.2.2.2.2
  have hown : s.vm.findClass RX6 = some m.cls := hC.1.2.2.2.1
  have hl : lv_has ls 2 [(0, .ref (a 0)), (1, .int x1)] := hl
  unfold V_X6_blocks at hv
  refine lv_iload_n hx hb dX6_blocks_0 rfl (lv_at hl 1 rfl) ?_
  refine T_callSTv hC hx0 hk (c_X6_requirePlayer l hfl D cs az a x1 g _ _ hv) (cwS 1 hts gX6_blocks_X6_requirePlayer rfl rfl rfl (by decide +kernel) ⟨Nat.le_of_ble_eq_true rfl, Nat.le_of_ble_eq_true rfl⟩) rfl hl rfl (Nat.le_of_ble_eq_true rfl) dX6_blocks_1 hE (Nat.le_of_ble_eq_true rfl) (Nat.le_of_ble_eq_true rfl) (Nat.le_of_ble_eq_true rfl) (Nat.le_of_ble_eq_true rfl) (fun g1 H locs hv hE => ?_)
  refine W.widen (k := 1) (n := 6) (Nat.le_of_ble_eq_true rfl) (Nat.le_of_ble_eq_true rfl) ?_
  refine lv_aload_n hx hb dX6_blocks_4 rfl (lv_at hl 0 rfl) ?_
  refine T_callVTv hC hx0 hk (c_X6_requireSave l hfl D cs az a  g1 _ _ hv) (cwV 0 hts gX6_blocks_X6_requireSave rfl rfl rfl (by decide +kernel) ⟨Nat.le_of_ble_eq_true rfl, Nat.le_of_ble_eq_true rfl⟩) f_game rfl rfl hl rfl (Nat.le_of_ble_eq_true rfl) dX6_blocks_5 hE (Nat.le_of_ble_eq_true rfl) (Nat.le_of_ble_eq_true rfl) (Nat.le_of_ble_eq_true rfl) (Nat.le_of_ble_eq_true rfl) (fun g2 H locs hv hE => ?_)
  refine W.widen (k := 2) (n := 12) (Nat.le_of_ble_eq_true rfl) (Nat.le_of_ble_eq_true rfl) ?_
  refine lv_aload_n hx hb dX6_blocks_8 rfl (lv_at hl 0 rfl) ?_
  refine G_get (v := .ref (a 25)) hC hE (fun _ h => List.mem_cons_of_mem _ (List.mem_append_left _ (List.mem_append_left _ (List.mem_append_left _ (List.mem_append_right _ h))))) f_game rfl 4 (by decide) (hts (.fieldLink RX6 34 "SeedBattle" "copies" "[LSeedBattle$Copy;") (List.mem_of_getElem? (i := 1) rfl)) rfl dX6_blocks_9 ?_
  refine lv_iload_n hx hb dX6_blocks_12 rfl (lv_at hl 1 rfl) ?_
  have hq3 := vp_lt hv.1
  refine G_aald hC hE f_cpys (t := 4) rfl hv.1 dX6_blocks_13 ?_
  have hv := hv.2
  refine T_callVi hC (c_X0_blockCount l D cs az a (ix := (Int32.toNatClampNeg x1)) hq3  g2 _ hv) (cwV 0 hts gX6_blocks_X0_blockCount rfl rfl rfl (by decide +kernel) ⟨Nat.le_of_ble_eq_true rfl, Nat.le_of_ble_eq_true rfl⟩) (f_copy hq3) rfl rfl hl rfl (Nat.le_of_ble_eq_true rfl) dX6_blocks_14 hE (Nat.le_of_ble_eq_true rfl) (Nat.le_of_ble_eq_true rfl) (fun r5 g4 H locs hv hE => ?_)
  exact T_zret hC hr hk hE rfl hv dX6_blocks_17 (Nat.le_of_ble_eq_true rfl) (Nat.le_of_ble_eq_true rfl)
def J_X6_breakBlock_53 (x1 : Int32) (x2 : Int32) (post : Int32 → St → Prop) (px : String → St → Prop)  (v1 : Int32) (v2 : Int32) (t0 : Int32) (g : St) : Prop := vp_in v1 4 ∧ (V_X0_breakOne (Int32.toNatClampNeg v1) v2 g (fun g10 => (narrow .boolean (.int t0) = .int t0) ∧ post t0 g10))
def J_X6_breakBlock_25 (x1 : Int32) (x2 : Int32) (post : Int32 → St → Prop) (px : String → St → Prop)   (g : St) : Prop := px "java/util/NoSuchElementException" g
def V_X6_breakBlock (x1 : Int32) (x2 : Int32) (g : St) (post : Int32 → St → Prop) (px : String → St → Prop) : Prop := V_X6_requirePlayer x1 g (fun g1 => V_X6_requireSave g1 (fun g2 => ((x2 < 0 → J_X6_breakBlock_25 x1 x2 post px g2) ∧ (¬ x2 < 0 → vp_in x1 4 ∧ (V_X0_blockCount (Int32.toNatClampNeg x1) g2 (fun r5 g4 => ((x2 < r5 → vp_in x1 4 ∧ (V_X0_isBroken (Int32.toNatClampNeg x1) x2 g4 (fun r8 g7 => ((¬ r8 = 0 → J_X6_breakBlock_53 x1 x2 post px x1 x2 0 g7) ∧ (r8 = 0 → J_X6_breakBlock_53 x1 x2 post px x1 x2 1 g7))))) ∧ (¬ x2 < r5 → J_X6_breakBlock_25 x1 x2 post px g4))))))) px) px
abbrev rm_X6_breakBlock : Room := { frames := 7, cells := 4, slots := 24, locals := 110 }
set_option maxHeartbeats 4000000 in
set_option maxRecDepth 100000 in
theorem c_X6_breakBlock (l : Launch) (hfl : l.flags = flags0) (D : va_G) (cs az a : Nat → Nat) (x1 : Int32) (x2 : Int32) (g : St) (post : Int32 → St → Prop) (px : String → St → Prop) (hv : V_X6_breakBlock x1 x2 g post px) : uTi l yX6_breakBlock wsX6_breakBlock rm_X6_breakBlock D cs az (gW cs a) [.ref (a 0), .int x1, .int x2] g 4 24 post px := by
  refine u_ofTi (cc := cX6_breakBlock) (maxL := 4) (by decide) rfl (Nat.le_of_ble_eq_true rfl) ?_
  intro p e s m args below meth c F ls hC hx0 hr hk hl hE
  have hx := hC.1.1; have hb := hC.1.2.1; have hml := hC.1.2.2.1; have hts := hC.1.2.2.2.2
  have hown : s.vm.findClass RX6 = some m.cls := hC.1.2.2.2.1
  have hl : lv_has ls 4 [(0, .ref (a 0)), (1, .int x1), (2, .int x2)] := hl
  unfold V_X6_breakBlock at hv
  have j_53 : ∀ (v1 : Int32) (v2 : Int32) (t0 : Int32) (g : St), J_X6_breakBlock_53 x1 x2 post px v1 v2 t0 g → ∀ (H : Heap) (locs : List Loc) (ls : Array Slot), uE D 52 gA (gO cs a) cs a F s g H locs → lv_has ls 4 [(0, .ref (a 0)), (1, .int v1), (2, .int v2)] → W p l e rm_X6_breakBlock s m args below meth c H locs 2 12 (vx_MQ below (va_Qi post (uB D (uW 52 gA (gO cs a) cs a)) F) (uX9 D (uW 52 gA (gO cs a) cs a) px F) args s 4 24 F) (F0 m 53 ls [.int t0]) := by
    intro  v1 v2 t0 g  hv
    intro H locs ls hE hl
    unfold J_X6_breakBlock_53 at hv
    refine lv_istore_n (lv' := [(3, .int t0), (0, .ref (a 0)), (1, .int v1), (2, .int v2)]) hx hb dX6_breakBlock_53 rfl hl (by decide) rfl (fun ls hl => ?_)
    refine lv_aload_n hx hb dX6_breakBlock_54 rfl (lv_at hl 1 rfl) ?_
    refine G_get (v := .ref (a 25)) hC hE (fun _ h => List.mem_cons_of_mem _ (List.mem_append_left _ (List.mem_append_left _ (List.mem_append_left _ (List.mem_append_left _ (List.mem_append_right _ h)))))) f_game rfl 4 (by decide) (hts (.fieldLink RX6 34 "SeedBattle" "copies" "[LSeedBattle$Copy;") (List.mem_of_getElem? (i := 3) rfl)) rfl dX6_breakBlock_55 ?_
    refine lv_iload_n hx hb dX6_breakBlock_58 rfl (lv_at hl 2 rfl) ?_
    have hq9 := vp_lt hv.1
    refine G_aald hC hE f_cpys (t := 4) rfl hv.1 dX6_breakBlock_59 ?_
    have hv := hv.2
    refine lv_iload_n hx hb dX6_breakBlock_60 rfl (lv_at hl 3 rfl) ?_
    refine T_callVv hC (c_X0_breakOne l D cs az a (ix := (Int32.toNatClampNeg v1)) hq9 v2 g _ hv) (cwV 1 hts gX6_breakBlock_X0_breakOne rfl rfl rfl (by decide +kernel) ⟨Nat.le_of_ble_eq_true rfl, Nat.le_of_ble_eq_true rfl⟩) (f_copy hq9) rfl rfl hl rfl (Nat.le_of_ble_eq_true rfl) dX6_breakBlock_61 hE (Nat.le_of_ble_eq_true rfl) (Nat.le_of_ble_eq_true rfl) (fun g10 H locs hv hE => ?_)
    refine lv_iload_n hx hb dX6_breakBlock_64 rfl (lv_at hl 0 rfl) ?_
    exact T_zret hC hr hk hE hv.1 hv.2 dX6_breakBlock_65 (Nat.le_of_ble_eq_true rfl) (Nat.le_of_ble_eq_true rfl)
  have j_25 : ∀  (g : St), J_X6_breakBlock_25 x1 x2 post px g → ∀ (H : Heap) (locs : List Loc) (ls : Array Slot), uE D 52 gA (gO cs a) cs a F s g H locs → lv_has ls 4 [] → W p l e rm_X6_breakBlock s m args below meth c H locs 2 12 (vx_MQ below (va_Qi post (uB D (uW 52 gA (gO cs a) cs a)) F) (uX9 D (uW 52 gA (gO cs a) cs a) px F) args s 4 24 F) (F0 m 25 ls []) := by
    intro  g  hv
    intro H locs ls hE hl
    unfold J_X6_breakBlock_25 at hv
    exact T_throwN (px := px) hfl hC hx0 hk hE hl (cls := "java/util/NoSuchElementException") (text := "no such block") (by decide +kernel) (hts (.classLink RX6 192 "java/util/NoSuchElementException") (List.mem_of_getElem? (i := 1) rfl)) (hts (.initialized "java/util/NoSuchElementException") (List.mem_of_getElem? (i := 2) rfl)) (by decide +kernel) (fun _ h => List.mem_cons_of_mem _ (List.mem_append_left _ (List.mem_append_left _ (List.mem_append_right _ h)))) (by decide +kernel) (by decide +kernel) dX6_breakBlock_25 dX6_breakBlock_28 dX6_breakBlock_29 dX6_breakBlock_31 dX6_breakBlock_34 (Nat.le_of_ble_eq_true rfl) (Nat.le_of_ble_eq_true rfl) (Nat.le_of_ble_eq_true rfl) (Nat.le_of_ble_eq_true rfl) hv (Nat.le_of_ble_eq_true rfl) (Nat.le_of_ble_eq_true rfl)
  refine lv_iload_n hx hb dX6_breakBlock_0 rfl (lv_at hl 1 rfl) ?_
  refine T_callSTv hC hx0 hk (c_X6_requirePlayer l hfl D cs az a x1 g _ _ hv) (cwS 1 hts gX6_breakBlock_X6_requirePlayer rfl rfl rfl (by decide +kernel) ⟨Nat.le_of_ble_eq_true rfl, Nat.le_of_ble_eq_true rfl⟩) rfl hl rfl (Nat.le_of_ble_eq_true rfl) dX6_breakBlock_1 hE (Nat.le_of_ble_eq_true rfl) (Nat.le_of_ble_eq_true rfl) (Nat.le_of_ble_eq_true rfl) (Nat.le_of_ble_eq_true rfl) (fun g1 H locs hv hE => ?_)
  refine W.widen (k := 1) (n := 6) (Nat.le_of_ble_eq_true rfl) (Nat.le_of_ble_eq_true rfl) ?_
  refine lv_aload_n hx hb dX6_breakBlock_4 rfl (lv_at hl 0 rfl) ?_
  refine T_callVTv hC hx0 hk (c_X6_requireSave l hfl D cs az a  g1 _ _ hv) (cwV 0 hts gX6_breakBlock_X6_requireSave rfl rfl rfl (by decide +kernel) ⟨Nat.le_of_ble_eq_true rfl, Nat.le_of_ble_eq_true rfl⟩) f_game rfl rfl hl rfl (Nat.le_of_ble_eq_true rfl) dX6_breakBlock_5 hE (Nat.le_of_ble_eq_true rfl) (Nat.le_of_ble_eq_true rfl) (Nat.le_of_ble_eq_true rfl) (Nat.le_of_ble_eq_true rfl) (fun g2 H locs hv hE => ?_)
  refine W.widen (k := 2) (n := 12) (Nat.le_of_ble_eq_true rfl) (Nat.le_of_ble_eq_true rfl) ?_
  refine lv_iload_n hx hb dX6_breakBlock_8 rfl (lv_at hl 2 rfl) ?_
  refine lv_if_lt (tgt := 25) hx hb dX6_breakBlock_9 (by decide) (fun c => ?_) (fun c => ?_)
  · have hv := hv.1 c
    exact j_25  _  hv _ _ _ hE (lv_sub hl [] rfl)
  · have hv := hv.2 c
    refine lv_iload_n hx hb dX6_breakBlock_12 rfl (lv_at hl 2 rfl) ?_
    refine lv_aload_n hx hb dX6_breakBlock_13 rfl (lv_at hl 0 rfl) ?_
    refine G_get (v := .ref (a 25)) hC hE (fun _ h => List.mem_cons_of_mem _ (List.mem_append_left _ (List.mem_append_left _ (List.mem_append_left _ (List.mem_append_left _ (List.mem_append_right _ h)))))) f_game rfl 4 (by decide) (hts (.fieldLink RX6 34 "SeedBattle" "copies" "[LSeedBattle$Copy;") (List.mem_of_getElem? (i := 3) rfl)) rfl dX6_breakBlock_14 ?_
    refine lv_iload_n hx hb dX6_breakBlock_17 rfl (lv_at hl 1 rfl) ?_
    have hq3 := vp_lt hv.1
    refine G_aald hC hE f_cpys (t := 4) rfl hv.1 dX6_breakBlock_18 ?_
    have hv := hv.2
    refine T_callVi hC (c_X0_blockCount l D cs az a (ix := (Int32.toNatClampNeg x1)) hq3  g2 _ hv) (cwV 0 hts gX6_breakBlock_X0_blockCount rfl rfl rfl (by decide +kernel) ⟨Nat.le_of_ble_eq_true rfl, Nat.le_of_ble_eq_true rfl⟩) (f_copy hq3) rfl rfl hl rfl (Nat.le_of_ble_eq_true rfl) dX6_breakBlock_19 hE (Nat.le_of_ble_eq_true rfl) (Nat.le_of_ble_eq_true rfl) (fun r5 g4 H locs hv hE => ?_)
    refine lv_icmp_lt (tgt := 35) hx hb dX6_breakBlock_22 (by decide) (fun c => ?_) (fun c => ?_)
    · have hv := hv.1 c
      refine lv_aload_n hx hb dX6_breakBlock_35 rfl (lv_at hl 0 rfl) ?_
      refine G_get (v := .ref (a 25)) hC hE (fun _ h => List.mem_cons_of_mem _ (List.mem_append_left _ (List.mem_append_left _ (List.mem_append_left _ (List.mem_append_left _ (List.mem_append_right _ h)))))) f_game rfl 4 (by decide) (hts (.fieldLink RX6 34 "SeedBattle" "copies" "[LSeedBattle$Copy;") (List.mem_of_getElem? (i := 3) rfl)) rfl dX6_breakBlock_36 ?_
      refine lv_iload_n hx hb dX6_breakBlock_39 rfl (lv_at hl 1 rfl) ?_
      have hq6 := vp_lt hv.1
      refine G_aald hC hE f_cpys (t := 4) rfl hv.1 dX6_breakBlock_40 ?_
      have hv := hv.2
      refine lv_iload_n hx hb dX6_breakBlock_41 rfl (lv_at hl 2 rfl) ?_
      refine T_callVi hC (c_X0_isBroken l D cs az a (ix := (Int32.toNatClampNeg x1)) hq6 x2 g4 _ hv) (cwV 1 hts gX6_breakBlock_X0_isBroken rfl rfl rfl (by decide +kernel) ⟨Nat.le_of_ble_eq_true rfl, Nat.le_of_ble_eq_true rfl⟩) (f_copy hq6) rfl rfl hl rfl (Nat.le_of_ble_eq_true rfl) dX6_breakBlock_42 hE (Nat.le_of_ble_eq_true rfl) (Nat.le_of_ble_eq_true rfl) (fun r8 g7 H locs hv hE => ?_)
      refine lv_if_ne (tgt := 52) hx hb dX6_breakBlock_45 (by decide) (fun c => ?_) (fun c => ?_)
      · have hv := hv.1 c
        refine lv_iconst (v := 0) hx hb dX6_breakBlock_52 (by decide) ?_
        exact j_53  _ _ _ _  hv _ _ _ hE (lv_sub hl [0, 1, 2] rfl)
      · have hv := hv.2 c
        refine lv_iconst (v := 1) hx hb dX6_breakBlock_48 (by decide) ?_
        refine lv_goto (tgt := 53) hx hb dX6_breakBlock_49 (by decide) ?_
        exact j_53  _ _ _ _  hv _ _ _ hE (lv_sub hl [0, 1, 2] rfl)
    · have hv := hv.2 c
      exact j_25  _  hv _ _ _ hE (lv_sub hl [] rfl)
def J_X6_savedAt_25 (x1 : Int32) (x2 : Int32) (post : Int32 → St → Prop) (px : String → St → Prop)   (g : St) : Prop := px "java/util/NoSuchElementException" g
def V_X6_savedAt (x1 : Int32) (x2 : Int32) (g : St) (post : Int32 → St → Prop) (px : String → St → Prop) : Prop := V_X6_requirePlayer x1 g (fun g1 => V_X6_requireSave g1 (fun g2 => ((x2 < 0 → J_X6_savedAt_25 x1 x2 post px g2) ∧ (¬ x2 < 0 → vp_in x1 4 ∧ (((x2 < (g2.2 (20 + (Int32.toNatClampNeg x1))) → vp_in x1 4 ∧ (V_X0_isBroken (Int32.toNatClampNeg x1) (x2 / 4) g2 (fun r6 g5 => ((r6 = 0 → vp_in x1 4 ∧ (V_X0_numberAt (Int32.toNatClampNeg x1) x2 g5 (fun r9 g8 => post r9 g8))) ∧ (¬ r6 = 0 → px "java/lang/UnsupportedOperationException" g5))))) ∧ (¬ x2 < (g2.2 (20 + (Int32.toNatClampNeg x1))) → J_X6_savedAt_25 x1 x2 post px g2)))))) px) px
abbrev rm_X6_savedAt : Room := { frames := 7, cells := 4, slots := 24, locals := 110 }
set_option maxHeartbeats 4000000 in
set_option maxRecDepth 100000 in
theorem c_X6_savedAt (l : Launch) (hfl : l.flags = flags0) (D : va_G) (cs az a : Nat → Nat) (x1 : Int32) (x2 : Int32) (g : St) (post : Int32 → St → Prop) (px : String → St → Prop) (hv : V_X6_savedAt x1 x2 g post px) : uTi l yX6_savedAt wsX6_savedAt rm_X6_savedAt D cs az (gW cs a) [.ref (a 0), .int x1, .int x2] g 4 24 post px := by
  refine u_ofTi (cc := cX6_savedAt) (maxL := 3) (by decide) rfl (Nat.le_of_ble_eq_true rfl) ?_
  intro p e s m args below meth c F ls hC hx0 hr hk hl hE
  have hx := hC.1.1; have hb := hC.1.2.1; have hml := hC.1.2.2.1; have hts := hC.1.2.2.2.2
  have hown : s.vm.findClass RX6 = some m.cls := hC.1.2.2.2.1
  have hl : lv_has ls 3 [(0, .ref (a 0)), (1, .int x1), (2, .int x2)] := hl
  unfold V_X6_savedAt at hv
  have j_25 : ∀  (g : St), J_X6_savedAt_25 x1 x2 post px g → ∀ (H : Heap) (locs : List Loc) (ls : Array Slot), uE D 52 gA (gO cs a) cs a F s g H locs → lv_has ls 3 [] → W p l e rm_X6_savedAt s m args below meth c H locs 2 12 (vx_MQ below (va_Qi post (uB D (uW 52 gA (gO cs a) cs a)) F) (uX9 D (uW 52 gA (gO cs a) cs a) px F) args s 4 24 F) (F0 m 25 ls []) := by
    intro  g  hv
    intro H locs ls hE hl
    unfold J_X6_savedAt_25 at hv
    exact T_throwN (px := px) hfl hC hx0 hk hE hl (cls := "java/util/NoSuchElementException") (text := "no such number") (by decide +kernel) (hts (.classLink RX6 192 "java/util/NoSuchElementException") (List.mem_of_getElem? (i := 1) rfl)) (hts (.initialized "java/util/NoSuchElementException") (List.mem_of_getElem? (i := 2) rfl)) (by decide +kernel) (fun _ h => List.mem_cons_of_mem _ (List.mem_append_left _ (List.mem_append_left _ (List.mem_append_left _ (List.mem_append_right _ h))))) (by decide +kernel) (by decide +kernel) dX6_savedAt_25 dX6_savedAt_28 dX6_savedAt_29 dX6_savedAt_31 dX6_savedAt_34 (Nat.le_of_ble_eq_true rfl) (Nat.le_of_ble_eq_true rfl) (Nat.le_of_ble_eq_true rfl) (Nat.le_of_ble_eq_true rfl) hv (Nat.le_of_ble_eq_true rfl) (Nat.le_of_ble_eq_true rfl)
  refine lv_iload_n hx hb dX6_savedAt_0 rfl (lv_at hl 1 rfl) ?_
  refine T_callSTv hC hx0 hk (c_X6_requirePlayer l hfl D cs az a x1 g _ _ hv) (cwS 1 hts gX6_savedAt_X6_requirePlayer rfl rfl rfl (by decide +kernel) ⟨Nat.le_of_ble_eq_true rfl, Nat.le_of_ble_eq_true rfl⟩) rfl hl rfl (Nat.le_of_ble_eq_true rfl) dX6_savedAt_1 hE (Nat.le_of_ble_eq_true rfl) (Nat.le_of_ble_eq_true rfl) (Nat.le_of_ble_eq_true rfl) (Nat.le_of_ble_eq_true rfl) (fun g1 H locs hv hE => ?_)
  refine W.widen (k := 1) (n := 6) (Nat.le_of_ble_eq_true rfl) (Nat.le_of_ble_eq_true rfl) ?_
  refine lv_aload_n hx hb dX6_savedAt_4 rfl (lv_at hl 0 rfl) ?_
  refine T_callVTv hC hx0 hk (c_X6_requireSave l hfl D cs az a  g1 _ _ hv) (cwV 0 hts gX6_savedAt_X6_requireSave rfl rfl rfl (by decide +kernel) ⟨Nat.le_of_ble_eq_true rfl, Nat.le_of_ble_eq_true rfl⟩) f_game rfl rfl hl rfl (Nat.le_of_ble_eq_true rfl) dX6_savedAt_5 hE (Nat.le_of_ble_eq_true rfl) (Nat.le_of_ble_eq_true rfl) (Nat.le_of_ble_eq_true rfl) (Nat.le_of_ble_eq_true rfl) (fun g2 H locs hv hE => ?_)
  refine W.widen (k := 2) (n := 12) (Nat.le_of_ble_eq_true rfl) (Nat.le_of_ble_eq_true rfl) ?_
  refine lv_iload_n hx hb dX6_savedAt_8 rfl (lv_at hl 2 rfl) ?_
  refine lv_if_lt (tgt := 25) hx hb dX6_savedAt_9 (by decide) (fun c => ?_) (fun c => ?_)
  · have hv := hv.1 c
    exact j_25  _  hv _ _ _ hE (lv_sub hl [] rfl)
  · have hv := hv.2 c
    refine lv_iload_n hx hb dX6_savedAt_12 rfl (lv_at hl 2 rfl) ?_
    refine lv_aload_n hx hb dX6_savedAt_13 rfl (lv_at hl 0 rfl) ?_
    refine G_get (v := .ref (a 25)) hC hE (fun _ h => List.mem_cons_of_mem _ (List.mem_append_left _ (List.mem_append_left _ (List.mem_append_left _ (List.mem_append_left _ (List.mem_append_left _ (List.mem_append_right _ h))))))) f_game rfl 4 (by decide) (hts (.fieldLink RX6 34 "SeedBattle" "copies" "[LSeedBattle$Copy;") (List.mem_of_getElem? (i := 5) rfl)) rfl dX6_savedAt_14 ?_
    refine lv_iload_n hx hb dX6_savedAt_17 rfl (lv_at hl 1 rfl) ?_
    have hq3 := vp_lt hv.1
    refine G_aald hC hE f_cpys (t := 4) rfl hv.1 dX6_savedAt_18 ?_
    have hv := hv.2
    refine G_getN (v := .int (g2.2 (20 + (Int32.toNatClampNeg x1)))) hC hE (fun _ h => List.mem_cons_of_mem _ (List.mem_append_left _ (List.mem_append_left _ (List.mem_append_left _ (List.mem_append_left _ (List.mem_append_right _ h)))))) (f_copy hq3) rfl 3 (by decide) (List.mem_of_getElem? (i := 1) rfl) rfl dX6_savedAt_19 ?_
    refine lv_icmp_lt (tgt := 35) hx hb dX6_savedAt_22 (by decide) (fun c => ?_) (fun c => ?_)
    · have hv := hv.1 c
      refine lv_aload_n hx hb dX6_savedAt_35 rfl (lv_at hl 0 rfl) ?_
      refine G_get (v := .ref (a 25)) hC hE (fun _ h => List.mem_cons_of_mem _ (List.mem_append_left _ (List.mem_append_left _ (List.mem_append_left _ (List.mem_append_left _ (List.mem_append_left _ (List.mem_append_right _ h))))))) f_game rfl 4 (by decide) (hts (.fieldLink RX6 34 "SeedBattle" "copies" "[LSeedBattle$Copy;") (List.mem_of_getElem? (i := 5) rfl)) rfl dX6_savedAt_36 ?_
      refine lv_iload_n hx hb dX6_savedAt_39 rfl (lv_at hl 1 rfl) ?_
      have hq4 := vp_lt hv.1
      refine G_aald hC hE f_cpys (t := 4) rfl hv.1 dX6_savedAt_40 ?_
      have hv := hv.2
      refine lv_iload_n hx hb dX6_savedAt_41 rfl (lv_at hl 2 rfl) ?_
      refine lv_iconst (v := 4) hx hb dX6_savedAt_42 (by decide) ?_
      refine lv_idiv hx hb dX6_savedAt_43 (by decide) ?_
      refine T_callVi hC (c_X0_isBroken l D cs az a (ix := (Int32.toNatClampNeg x1)) hq4 (x2 / 4) g2 _ hv) (cwV 1 hts gX6_savedAt_X0_isBroken rfl rfl rfl (by decide +kernel) ⟨Nat.le_of_ble_eq_true rfl, Nat.le_of_ble_eq_true rfl⟩) (f_copy hq4) rfl rfl hl rfl (Nat.le_of_ble_eq_true rfl) dX6_savedAt_44 hE (Nat.le_of_ble_eq_true rfl) (Nat.le_of_ble_eq_true rfl) (fun r6 g5 H locs hv hE => ?_)
      refine lv_if_eq (tgt := 60) hx hb dX6_savedAt_47 (by decide) (fun c => ?_) (fun c => ?_)
      · have hv := hv.1 c
        refine lv_aload_n hx hb dX6_savedAt_60 rfl (lv_at hl 0 rfl) ?_
        refine G_get (v := .ref (a 25)) hC hE (fun _ h => List.mem_cons_of_mem _ (List.mem_append_left _ (List.mem_append_left _ (List.mem_append_left _ (List.mem_append_left _ (List.mem_append_left _ (List.mem_append_right _ h))))))) f_game rfl 4 (by decide) (hts (.fieldLink RX6 34 "SeedBattle" "copies" "[LSeedBattle$Copy;") (List.mem_of_getElem? (i := 5) rfl)) rfl dX6_savedAt_61 ?_
        refine lv_iload_n hx hb dX6_savedAt_64 rfl (lv_at hl 1 rfl) ?_
        have hq7 := vp_lt hv.1
        refine G_aald hC hE f_cpys (t := 4) rfl hv.1 dX6_savedAt_65 ?_
        have hv := hv.2
        refine lv_iload_n hx hb dX6_savedAt_66 rfl (lv_at hl 2 rfl) ?_
        refine T_callVi hC (c_X0_numberAt l D cs az a (ix := (Int32.toNatClampNeg x1)) hq7 x2 g5 _ hv) (cwV 1 hts gX6_savedAt_X0_numberAt rfl rfl rfl (by decide +kernel) ⟨Nat.le_of_ble_eq_true rfl, Nat.le_of_ble_eq_true rfl⟩) (f_copy hq7) rfl rfl hl rfl (Nat.le_of_ble_eq_true rfl) dX6_savedAt_67 hE (Nat.le_of_ble_eq_true rfl) (Nat.le_of_ble_eq_true rfl) (fun r9 g8 H locs hv hE => ?_)
        exact T_zret hC hr hk hE rfl hv dX6_savedAt_70 (Nat.le_of_ble_eq_true rfl) (Nat.le_of_ble_eq_true rfl)
      · have hv := hv.2 c
        exact T_throw (px := px) hfl hC hx0 hk hE hl (cls := "java/lang/UnsupportedOperationException") (text := "its block is broken") (by decide +kernel) (hts (.classLink RX6 103 "java/lang/UnsupportedOperationException") (List.mem_of_getElem? (i := 3) rfl)) (hts (.initialized "java/lang/UnsupportedOperationException") (List.mem_of_getElem? (i := 4) rfl)) (by decide +kernel) (fun _ h => List.mem_cons_of_mem _ (List.mem_append_left _ (List.mem_append_left _ (List.mem_append_right _ h)))) (by decide +kernel) (by decide +kernel) dX6_savedAt_50 dX6_savedAt_53 dX6_savedAt_54 dX6_savedAt_56 dX6_savedAt_59 (Nat.le_of_ble_eq_true rfl) (Nat.le_of_ble_eq_true rfl) (Nat.le_of_ble_eq_true rfl) (Nat.le_of_ble_eq_true rfl) hv (Nat.le_of_ble_eq_true rfl) (Nat.le_of_ble_eq_true rfl)
    · have hv := hv.2 c
      exact j_25  _  hv _ _ _ hE (lv_sub hl [] rfl)
def J_X6_repair_72 (x1 : Int32) (post : Int32 → St → Prop) (px : String → St → Prop) (K12 : (Int32 × Int32 × Int32 × St) → Prop) (v1 : Int32) (v2 : Int32) (v3 : Int32) (g : St) : Prop := K12 (v1, v2, (v3 + 1), g)
def J_X6_repair_12 (x1 : Int32) (post : Int32 → St → Prop) (px : String → St → Prop) (K12 : (Int32 × Int32 × Int32 × St) → Prop) (v1 : Int32) (v2 : Int32) (v3 : Int32) (g : St) : Prop := vp_in v1 4 ∧ (V_X0_blockCount (Int32.toNatClampNeg v1) g (fun r5 g4 => ((r5 ≤ v3 → post v2 g4) ∧ (¬ r5 ≤ v3 → vp_in v1 4 ∧ (V_X0_isBroken (Int32.toNatClampNeg v1) v3 g4 (fun r8 g7 => ((r8 = 0 → J_X6_repair_72 x1 post px K12 v1 v2 v3 g7) ∧ (¬ r8 = 0 → vp_in v1 4 ∧ (V_X0_canRebuild (Int32.toNatClampNeg v1) v3 g7 (fun r11 g10 => ((r11 = 0 → J_X6_repair_72 x1 post px K12 v1 v2 v3 g10) ∧ (¬ r11 = 0 → vp_in v1 4 ∧ (V_X0_rebuild (Int32.toNatClampNeg v1) v3 g10 (fun g13 => J_X6_repair_72 x1 post px K12 v1 (v2 + 1) v3 g13))))))))))))))
def V_X6_repair (x1 : Int32) (g : St) (post : Int32 → St → Prop) (px : String → St → Prop) : Prop := V_X6_requirePlayer x1 g (fun g1 => V_X6_requireSave g1 (fun g2 => lpP (fun K12 (z : Int32 × Int32 × Int32 × St) => J_X6_repair_12 x1 post px K12 z.1 z.2.1 z.2.2.1 z.2.2.2) (x1, 0, 0, g2)) px) px
abbrev rm_X6_repair : Room := { frames := 7, cells := 4, slots := 24, locals := 110 }
set_option maxHeartbeats 4000000 in
set_option maxRecDepth 100000 in
theorem c_X6_repair (l : Launch) (hfl : l.flags = flags0) (D : va_G) (cs az a : Nat → Nat) (x1 : Int32) (g : St) (post : Int32 → St → Prop) (px : String → St → Prop) (hv : V_X6_repair x1 g post px) : uTi l yX6_repair wsX6_repair rm_X6_repair D cs az (gW cs a) [.ref (a 0), .int x1] g 4 24 post px := by
  refine u_ofTi (cc := cX6_repair) (maxL := 4) (by decide) rfl (Nat.le_of_ble_eq_true rfl) ?_
  intro p e s m args below meth c F ls hC hx0 hr hk hl hE
  have hx := hC.1.1; have hb := hC.1.2.1; have hml := hC.1.2.2.1; have hts := hC.1.2.2.2.2
  have hown : s.vm.findClass RX6 = some m.cls := hC.1.2.2.2.1
  have hl : lv_has ls 4 [(0, .ref (a 0)), (1, .int x1)] := hl
  unfold V_X6_repair at hv
  have j_72 : ∀ (K12 : (Int32 × Int32 × Int32 × St) → Prop), (∀ (v1 : Int32) (v2 : Int32) (v3 : Int32) (g : St), K12 (v1, v2, v3, g) → ∀ (H : Heap) (locs : List Loc) (ls : Array Slot), uE D 52 gA (gO cs a) cs a F s g H locs → lv_has ls 4 [(0, .ref (a 0)), (1, .int v1), (2, .int v2), (3, .int v3)] → W p l e rm_X6_repair s m args below meth c H locs 2 12 (vx_MQ below (va_Qi post (uB D (uW 52 gA (gO cs a) cs a)) F) (uX9 D (uW 52 gA (gO cs a) cs a) px F) args s 4 24 F) (F0 m 12 ls [])) → ∀ (v1 : Int32) (v2 : Int32) (v3 : Int32) (g : St), J_X6_repair_72 x1 post px K12 v1 v2 v3 g → ∀ (H : Heap) (locs : List Loc) (ls : Array Slot), uE D 52 gA (gO cs a) cs a F s g H locs → lv_has ls 4 [(0, .ref (a 0)), (1, .int v1), (2, .int v2), (3, .int v3)] → W p l e rm_X6_repair s m args below meth c H locs 2 12 (vx_MQ below (va_Qi post (uB D (uW 52 gA (gO cs a) cs a)) F) (uX9 D (uW 52 gA (gO cs a) cs a) px F) args s 4 24 F) (F0 m 72 ls []) := by
    intro K12 hK12 v1 v2 v3 g  hv
    intro H locs ls hE hl
    unfold J_X6_repair_72 at hv
    refine lv_iinc (v := (v3 + 1)) (lv' := [(3, .int (v3 + 1)), (0, .ref (a 0)), (1, .int v1), (2, .int v2)]) hx hb dX6_repair_72 hl (k := 3) rfl rfl (by decide) rfl (fun ls hl => ?_)
    refine lv_goto (tgt := 12) hx hb dX6_repair_75 (by decide) ?_
    exact hK12 _ _ _ _  hv _ _ _ hE (lv_sub hl [1, 2, 3, 0] rfl)
  have j_12 : ∀ (v1 : Int32) (v2 : Int32) (v3 : Int32) (g : St), lpP (fun K12 (z : Int32 × Int32 × Int32 × St) => J_X6_repair_12 x1 post px K12 z.1 z.2.1 z.2.2.1 z.2.2.2) (v1, v2, v3, g) → ∀ (H : Heap) (locs : List Loc) (ls : Array Slot), uE D 52 gA (gO cs a) cs a F s g H locs → lv_has ls 4 [(0, .ref (a 0)), (1, .int v1), (2, .int v2), (3, .int v3)] → W p l e rm_X6_repair s m args below meth c H locs 2 12 (vx_MQ below (va_Qi post (uB D (uW 52 gA (gO cs a) cs a)) F) (uX9 D (uW 52 gA (gO cs a) cs a) px F) args s 4 24 F) (F0 m 12 ls []) := by
    intro  v1 v2 v3 g  hv
    obtain ⟨nn, hv⟩ := hv
    induction nn generalizing v1 v2 v3 g with
    | zero => exact False.elim hv
    | succ nn hK12 =>
      intro H locs ls hE hl
      have hv : J_X6_repair_12 x1 post px (itP _ nn) v1 v2 v3 g := hv
      unfold J_X6_repair_12 at hv
      refine lv_iload_n hx hb dX6_repair_12 rfl (lv_at hl 3 rfl) ?_
      refine lv_aload_n hx hb dX6_repair_13 rfl (lv_at hl 0 rfl) ?_
      refine G_get (v := .ref (a 25)) hC hE (fun _ h => List.mem_cons_of_mem _ (List.mem_append_left _ (List.mem_append_left _ (List.mem_append_left _ (List.mem_append_left _ (List.mem_append_right _ h)))))) f_game rfl 4 (by decide) (hts (.fieldLink RX6 34 "SeedBattle" "copies" "[LSeedBattle$Copy;") (List.mem_of_getElem? (i := 1) rfl)) rfl dX6_repair_14 ?_
      refine lv_iload_n hx hb dX6_repair_17 rfl (lv_at hl 1 rfl) ?_
      have hq3 := vp_lt hv.1
      refine G_aald hC hE f_cpys (t := 4) rfl hv.1 dX6_repair_18 ?_
      have hv := hv.2
      refine T_callVi hC (c_X0_blockCount l D cs az a (ix := (Int32.toNatClampNeg v1)) hq3  g _ hv) (cwV 0 hts gX6_repair_X0_blockCount rfl rfl rfl (by decide +kernel) ⟨Nat.le_of_ble_eq_true rfl, Nat.le_of_ble_eq_true rfl⟩) (f_copy hq3) rfl rfl hl rfl (Nat.le_of_ble_eq_true rfl) dX6_repair_19 hE (Nat.le_of_ble_eq_true rfl) (Nat.le_of_ble_eq_true rfl) (fun r5 g4 H locs hv hE => ?_)
      refine lv_icmp_ge (tgt := 78) hx hb dX6_repair_22 (by decide) (fun c => ?_) (fun c => ?_)
      · have hv := hv.1 c
        refine lv_iload_n hx hb dX6_repair_78 rfl (lv_at hl 2 rfl) ?_
        exact T_zret hC hr hk hE rfl hv dX6_repair_79 (Nat.le_of_ble_eq_true rfl) (Nat.le_of_ble_eq_true rfl)
      · have hv := hv.2 c
        refine lv_aload_n hx hb dX6_repair_25 rfl (lv_at hl 0 rfl) ?_
        refine G_get (v := .ref (a 25)) hC hE (fun _ h => List.mem_cons_of_mem _ (List.mem_append_left _ (List.mem_append_left _ (List.mem_append_left _ (List.mem_append_left _ (List.mem_append_right _ h)))))) f_game rfl 4 (by decide) (hts (.fieldLink RX6 34 "SeedBattle" "copies" "[LSeedBattle$Copy;") (List.mem_of_getElem? (i := 1) rfl)) rfl dX6_repair_26 ?_
        refine lv_iload_n hx hb dX6_repair_29 rfl (lv_at hl 1 rfl) ?_
        have hq6 := vp_lt hv.1
        refine G_aald hC hE f_cpys (t := 4) rfl hv.1 dX6_repair_30 ?_
        have hv := hv.2
        refine lv_iload_n hx hb dX6_repair_31 rfl (lv_at hl 3 rfl) ?_
        refine T_callVi hC (c_X0_isBroken l D cs az a (ix := (Int32.toNatClampNeg v1)) hq6 v3 g4 _ hv) (cwV 1 hts gX6_repair_X0_isBroken rfl rfl rfl (by decide +kernel) ⟨Nat.le_of_ble_eq_true rfl, Nat.le_of_ble_eq_true rfl⟩) (f_copy hq6) rfl rfl hl rfl (Nat.le_of_ble_eq_true rfl) dX6_repair_32 hE (Nat.le_of_ble_eq_true rfl) (Nat.le_of_ble_eq_true rfl) (fun r8 g7 H locs hv hE => ?_)
        refine lv_if_eq (tgt := 72) hx hb dX6_repair_35 (by decide) (fun c => ?_) (fun c => ?_)
        · have hv := hv.1 c
          exact j_72 _ hK12 _ _ _ _  hv _ _ _ hE (lv_sub hl [0, 1, 2, 3] rfl)
        · have hv := hv.2 c
          refine lv_aload_n hx hb dX6_repair_38 rfl (lv_at hl 0 rfl) ?_
          refine G_get (v := .ref (a 25)) hC hE (fun _ h => List.mem_cons_of_mem _ (List.mem_append_left _ (List.mem_append_left _ (List.mem_append_left _ (List.mem_append_left _ (List.mem_append_right _ h)))))) f_game rfl 4 (by decide) (hts (.fieldLink RX6 34 "SeedBattle" "copies" "[LSeedBattle$Copy;") (List.mem_of_getElem? (i := 1) rfl)) rfl dX6_repair_39 ?_
          refine lv_iload_n hx hb dX6_repair_42 rfl (lv_at hl 1 rfl) ?_
          have hq9 := vp_lt hv.1
          refine G_aald hC hE f_cpys (t := 4) rfl hv.1 dX6_repair_43 ?_
          have hv := hv.2
          refine lv_iload_n hx hb dX6_repair_44 rfl (lv_at hl 3 rfl) ?_
          refine lv_aload_n hx hb dX6_repair_45 rfl (lv_at hl 0 rfl) ?_
          refine G_get (v := .ref (a 25)) hC hE (fun _ h => List.mem_cons_of_mem _ (List.mem_append_left _ (List.mem_append_left _ (List.mem_append_left _ (List.mem_append_left _ (List.mem_append_right _ h)))))) f_game rfl 4 (by decide) (hts (.fieldLink RX6 34 "SeedBattle" "copies" "[LSeedBattle$Copy;") (List.mem_of_getElem? (i := 1) rfl)) rfl dX6_repair_46 ?_
          refine T_callVi hC (c_X0_canRebuild l D cs az a (ix := (Int32.toNatClampNeg v1)) hq9 v3 g7 _ hv) (cwV 2 hts gX6_repair_X0_canRebuild rfl rfl rfl (by decide +kernel) ⟨Nat.le_of_ble_eq_true rfl, Nat.le_of_ble_eq_true rfl⟩) (f_copy hq9) rfl rfl hl rfl (Nat.le_of_ble_eq_true rfl) dX6_repair_49 hE (Nat.le_of_ble_eq_true rfl) (Nat.le_of_ble_eq_true rfl) (fun r11 g10 H locs hv hE => ?_)
          refine lv_if_eq (tgt := 72) hx hb dX6_repair_52 (by decide) (fun c => ?_) (fun c => ?_)
          · have hv := hv.1 c
            exact j_72 _ hK12 _ _ _ _  hv _ _ _ hE (lv_sub hl [0, 1, 2, 3] rfl)
          · have hv := hv.2 c
            refine lv_aload_n hx hb dX6_repair_55 rfl (lv_at hl 0 rfl) ?_
            refine G_get (v := .ref (a 25)) hC hE (fun _ h => List.mem_cons_of_mem _ (List.mem_append_left _ (List.mem_append_left _ (List.mem_append_left _ (List.mem_append_left _ (List.mem_append_right _ h)))))) f_game rfl 4 (by decide) (hts (.fieldLink RX6 34 "SeedBattle" "copies" "[LSeedBattle$Copy;") (List.mem_of_getElem? (i := 1) rfl)) rfl dX6_repair_56 ?_
            refine lv_iload_n hx hb dX6_repair_59 rfl (lv_at hl 1 rfl) ?_
            have hq12 := vp_lt hv.1
            refine G_aald hC hE f_cpys (t := 4) rfl hv.1 dX6_repair_60 ?_
            have hv := hv.2
            refine lv_iload_n hx hb dX6_repair_61 rfl (lv_at hl 3 rfl) ?_
            refine lv_aload_n hx hb dX6_repair_62 rfl (lv_at hl 0 rfl) ?_
            refine G_get (v := .ref (a 25)) hC hE (fun _ h => List.mem_cons_of_mem _ (List.mem_append_left _ (List.mem_append_left _ (List.mem_append_left _ (List.mem_append_left _ (List.mem_append_right _ h)))))) f_game rfl 4 (by decide) (hts (.fieldLink RX6 34 "SeedBattle" "copies" "[LSeedBattle$Copy;") (List.mem_of_getElem? (i := 1) rfl)) rfl dX6_repair_63 ?_
            refine T_callVv hC (c_X0_rebuild l D cs az a (ix := (Int32.toNatClampNeg v1)) hq12 v3 g10 _ hv) (cwV 2 hts gX6_repair_X0_rebuild rfl rfl rfl (by decide +kernel) ⟨Nat.le_of_ble_eq_true rfl, Nat.le_of_ble_eq_true rfl⟩) (f_copy hq12) rfl rfl hl rfl (Nat.le_of_ble_eq_true rfl) dX6_repair_66 hE (Nat.le_of_ble_eq_true rfl) (Nat.le_of_ble_eq_true rfl) (fun g13 H locs hv hE => ?_)
            refine lv_iinc (v := (v2 + 1)) (lv' := [(2, .int (v2 + 1)), (0, .ref (a 0)), (1, .int v1), (3, .int v3)]) hx hb dX6_repair_69 hl (k := 2) rfl rfl (by decide) rfl (fun ls hl => ?_)
            exact j_72 _ hK12 _ _ _ _  hv _ _ _ hE (lv_sub hl [1, 2, 0, 3] rfl)
  refine lv_iload_n hx hb dX6_repair_0 rfl (lv_at hl 1 rfl) ?_
  refine T_callSTv hC hx0 hk (c_X6_requirePlayer l hfl D cs az a x1 g _ _ hv) (cwS 1 hts gX6_repair_X6_requirePlayer rfl rfl rfl (by decide +kernel) ⟨Nat.le_of_ble_eq_true rfl, Nat.le_of_ble_eq_true rfl⟩) rfl hl rfl (Nat.le_of_ble_eq_true rfl) dX6_repair_1 hE (Nat.le_of_ble_eq_true rfl) (Nat.le_of_ble_eq_true rfl) (Nat.le_of_ble_eq_true rfl) (Nat.le_of_ble_eq_true rfl) (fun g1 H locs hv hE => ?_)
  refine W.widen (k := 1) (n := 6) (Nat.le_of_ble_eq_true rfl) (Nat.le_of_ble_eq_true rfl) ?_
  refine lv_aload_n hx hb dX6_repair_4 rfl (lv_at hl 0 rfl) ?_
  refine T_callVTv hC hx0 hk (c_X6_requireSave l hfl D cs az a  g1 _ _ hv) (cwV 0 hts gX6_repair_X6_requireSave rfl rfl rfl (by decide +kernel) ⟨Nat.le_of_ble_eq_true rfl, Nat.le_of_ble_eq_true rfl⟩) f_game rfl rfl hl rfl (Nat.le_of_ble_eq_true rfl) dX6_repair_5 hE (Nat.le_of_ble_eq_true rfl) (Nat.le_of_ble_eq_true rfl) (Nat.le_of_ble_eq_true rfl) (Nat.le_of_ble_eq_true rfl) (fun g2 H locs hv hE => ?_)
  refine W.widen (k := 2) (n := 12) (Nat.le_of_ble_eq_true rfl) (Nat.le_of_ble_eq_true rfl) ?_
  refine lv_iconst (v := 0) hx hb dX6_repair_8 (by decide) ?_
  refine lv_istore_n (lv' := [(2, .int 0), (0, .ref (a 0)), (1, .int x1)]) hx hb dX6_repair_9 rfl hl (by decide) rfl (fun ls hl => ?_)
  refine lv_iconst (v := 0) hx hb dX6_repair_10 (by decide) ?_
  refine lv_istore_n (lv' := [(3, .int 0), (2, .int 0), (0, .ref (a 0)), (1, .int x1)]) hx hb dX6_repair_11 rfl hl (by decide) rfl (fun ls hl => ?_)
  exact j_12  _ _ _ _  hv _ _ _ hE (lv_sub hl [2, 3, 1, 0] rfl)
def V_X6_load (x1 : Int32) (g : St) (post : Int32 → St → Prop) (px : String → St → Prop) : Prop := V_X6_requirePlayer x1 g (fun g1 => V_X6_requireSave g1 (fun g2 => vp_in x1 4 ∧ (V_X0_anyBroken (Int32.toNatClampNeg x1) g2 (fun r5 g4 => ((r5 = 0 → vp_in x1 4 ∧ (vp_in x1 4 ∧ (V_X0_writeTo (Int32.toNatClampNeg x1) g4 (fun g8 => vp_in x1 4 ∧ (post (g8.2 (10 + (Int32.toNatClampNeg x1))) g8))))) ∧ (¬ r5 = 0 → px "java/lang/UnsupportedOperationException" g4))))) px) px
abbrev rm_X6_load : Room := { frames := 7, cells := 4, slots := 24, locals := 110 }
set_option maxHeartbeats 4000000 in
set_option maxRecDepth 100000 in
theorem c_X6_load (l : Launch) (hfl : l.flags = flags0) (D : va_G) (cs az a : Nat → Nat) (x1 : Int32) (g : St) (post : Int32 → St → Prop) (px : String → St → Prop) (hv : V_X6_load x1 g post px) : uTi l yX6_load wsX6_load rm_X6_load D cs az (gW cs a) [.ref (a 0), .int x1] g 4 24 post px := by
  refine u_ofTi (cc := cX6_load) (maxL := 2) (by decide) rfl (Nat.le_of_ble_eq_true rfl) ?_
  intro p e s m args below meth c F ls hC hx0 hr hk hl hE
  have hx := hC.1.1; have hb := hC.1.2.1; have hml := hC.1.2.2.1; have hts := hC.1.2.2.2.2
  have hown : s.vm.findClass RX6 = some m.cls := hC.1.2.2.2.1
  have hl : lv_has ls 2 [(0, .ref (a 0)), (1, .int x1)] := hl
  unfold V_X6_load at hv
  refine lv_iload_n hx hb dX6_load_0 rfl (lv_at hl 1 rfl) ?_
  refine T_callSTv hC hx0 hk (c_X6_requirePlayer l hfl D cs az a x1 g _ _ hv) (cwS 1 hts gX6_load_X6_requirePlayer rfl rfl rfl (by decide +kernel) ⟨Nat.le_of_ble_eq_true rfl, Nat.le_of_ble_eq_true rfl⟩) rfl hl rfl (Nat.le_of_ble_eq_true rfl) dX6_load_1 hE (Nat.le_of_ble_eq_true rfl) (Nat.le_of_ble_eq_true rfl) (Nat.le_of_ble_eq_true rfl) (Nat.le_of_ble_eq_true rfl) (fun g1 H locs hv hE => ?_)
  refine W.widen (k := 1) (n := 6) (Nat.le_of_ble_eq_true rfl) (Nat.le_of_ble_eq_true rfl) ?_
  refine lv_aload_n hx hb dX6_load_4 rfl (lv_at hl 0 rfl) ?_
  refine T_callVTv hC hx0 hk (c_X6_requireSave l hfl D cs az a  g1 _ _ hv) (cwV 0 hts gX6_load_X6_requireSave rfl rfl rfl (by decide +kernel) ⟨Nat.le_of_ble_eq_true rfl, Nat.le_of_ble_eq_true rfl⟩) f_game rfl rfl hl rfl (Nat.le_of_ble_eq_true rfl) dX6_load_5 hE (Nat.le_of_ble_eq_true rfl) (Nat.le_of_ble_eq_true rfl) (Nat.le_of_ble_eq_true rfl) (Nat.le_of_ble_eq_true rfl) (fun g2 H locs hv hE => ?_)
  refine W.widen (k := 2) (n := 12) (Nat.le_of_ble_eq_true rfl) (Nat.le_of_ble_eq_true rfl) ?_
  refine lv_aload_n hx hb dX6_load_8 rfl (lv_at hl 0 rfl) ?_
  refine G_get (v := .ref (a 25)) hC hE (fun _ h => List.mem_cons_of_mem _ (List.mem_append_left _ (List.mem_append_left _ (List.mem_append_left _ (List.mem_append_left _ (List.mem_append_left _ (List.mem_append_left _ (List.mem_append_right _ h)))))))) f_game rfl 4 (by decide) (hts (.fieldLink RX6 34 "SeedBattle" "copies" "[LSeedBattle$Copy;") (List.mem_of_getElem? (i := 3) rfl)) rfl dX6_load_9 ?_
  refine lv_iload_n hx hb dX6_load_12 rfl (lv_at hl 1 rfl) ?_
  have hq3 := vp_lt hv.1
  refine G_aald hC hE f_cpys (t := 4) rfl hv.1 dX6_load_13 ?_
  have hv := hv.2
  refine T_callVi hC (c_X0_anyBroken l D cs az a (ix := (Int32.toNatClampNeg x1)) hq3  g2 _ hv) (cwV 0 hts gX6_load_X0_anyBroken rfl rfl rfl (by decide +kernel) ⟨Nat.le_of_ble_eq_true rfl, Nat.le_of_ble_eq_true rfl⟩) (f_copy hq3) rfl rfl hl rfl (Nat.le_of_ble_eq_true rfl) dX6_load_14 hE (Nat.le_of_ble_eq_true rfl) (Nat.le_of_ble_eq_true rfl) (fun r5 g4 H locs hv hE => ?_)
  refine lv_if_eq (tgt := 30) hx hb dX6_load_17 (by decide) (fun c => ?_) (fun c => ?_)
  · have hv := hv.1 c
    refine lv_aload_n hx hb dX6_load_30 rfl (lv_at hl 0 rfl) ?_
    refine G_get (v := .ref (a 25)) hC hE (fun _ h => List.mem_cons_of_mem _ (List.mem_append_left _ (List.mem_append_left _ (List.mem_append_left _ (List.mem_append_left _ (List.mem_append_left _ (List.mem_append_left _ (List.mem_append_right _ h)))))))) f_game rfl 4 (by decide) (hts (.fieldLink RX6 34 "SeedBattle" "copies" "[LSeedBattle$Copy;") (List.mem_of_getElem? (i := 3) rfl)) rfl dX6_load_31 ?_
    refine lv_iload_n hx hb dX6_load_34 rfl (lv_at hl 1 rfl) ?_
    have hq6 := vp_lt hv.1
    refine G_aald hC hE f_cpys (t := 4) rfl hv.1 dX6_load_35 ?_
    have hv := hv.2
    refine lv_aload_n hx hb dX6_load_36 rfl (lv_at hl 0 rfl) ?_
    refine G_get (v := .ref (a 24)) hC hE (fun _ h => List.mem_cons_of_mem _ (List.mem_append_left _ (List.mem_append_left _ (List.mem_append_left _ (List.mem_append_left _ (List.mem_append_left _ (List.mem_append_left _ (List.mem_append_right _ h)))))))) f_game rfl 3 (by decide) (hts (.fieldLink RX6 28 "SeedBattle" "indexes" "[LSeedBattle$Index;") (List.mem_of_getElem? (i := 4) rfl)) rfl dX6_load_37 ?_
    refine lv_iload_n hx hb dX6_load_40 rfl (lv_at hl 1 rfl) ?_
    have hq7 := vp_lt hv.1
    refine G_aald hC hE f_idxs (t := 3) rfl hv.1 dX6_load_41 ?_
    have hv := hv.2
    refine T_callVv hC (c_X0_writeTo l D cs az a (ix := (Int32.toNatClampNeg x1)) hq6  g4 _ hv) (cwV 1 hts gX6_load_X0_writeTo rfl rfl rfl (by decide +kernel) ⟨Nat.le_of_ble_eq_true rfl, Nat.le_of_ble_eq_true rfl⟩) (f_copy hq6) rfl rfl hl rfl (Nat.le_of_ble_eq_true rfl) dX6_load_42 hE (Nat.le_of_ble_eq_true rfl) (Nat.le_of_ble_eq_true rfl) (fun g8 H locs hv hE => ?_)
    refine lv_aload_n hx hb dX6_load_45 rfl (lv_at hl 0 rfl) ?_
    refine G_get (v := .ref (a 24)) hC hE (fun _ h => List.mem_cons_of_mem _ (List.mem_append_left _ (List.mem_append_left _ (List.mem_append_left _ (List.mem_append_left _ (List.mem_append_left _ (List.mem_append_left _ (List.mem_append_right _ h)))))))) f_game rfl 3 (by decide) (hts (.fieldLink RX6 28 "SeedBattle" "indexes" "[LSeedBattle$Index;") (List.mem_of_getElem? (i := 4) rfl)) rfl dX6_load_46 ?_
    refine lv_iload_n hx hb dX6_load_49 rfl (lv_at hl 1 rfl) ?_
    have hq9 := vp_lt hv.1
    refine G_aald hC hE f_idxs (t := 3) rfl hv.1 dX6_load_50 ?_
    have hv := hv.2
    refine G_getN (v := .int (g8.2 (10 + (Int32.toNatClampNeg x1)))) hC hE (fun _ h => List.mem_cons_of_mem _ (List.mem_append_left _ (List.mem_append_left _ (List.mem_append_left _ (List.mem_append_left _ (List.mem_append_left _ (List.mem_append_right _ h))))))) (f_index hq9) rfl 1 (by decide) (List.mem_of_getElem? (i := 0) rfl) rfl dX6_load_51 ?_
    exact T_zret hC hr hk hE rfl hv dX6_load_54 (Nat.le_of_ble_eq_true rfl) (Nat.le_of_ble_eq_true rfl)
  · have hv := hv.2 c
    exact T_throw (px := px) hfl hC hx0 hk hE hl (cls := "java/lang/UnsupportedOperationException") (text := "a block is broken") (by decide +kernel) (hts (.classLink RX6 103 "java/lang/UnsupportedOperationException") (List.mem_of_getElem? (i := 1) rfl)) (hts (.initialized "java/lang/UnsupportedOperationException") (List.mem_of_getElem? (i := 2) rfl)) (by decide +kernel) (fun _ h => List.mem_cons_of_mem _ (List.mem_append_left _ (List.mem_append_left _ (List.mem_append_left _ (List.mem_append_right _ h))))) (by decide +kernel) (by decide +kernel) dX6_load_20 dX6_load_23 dX6_load_24 dX6_load_26 dX6_load_29 (Nat.le_of_ble_eq_true rfl) (Nat.le_of_ble_eq_true rfl) (Nat.le_of_ble_eq_true rfl) (Nat.le_of_ble_eq_true rfl) hv (Nat.le_of_ble_eq_true rfl) (Nat.le_of_ble_eq_true rfl)
def V_X6_allies (x1 : Int32) (g : St) (post : Int32 → St → Prop) (px : String → St → Prop) : Prop := V_X6_requirePlayer x1 g (fun g1 => V_X6_requireSave g1 (fun g2 => vp_in x1 4 ∧ (V_J6_bitCount_0f7a4 (g2.2 (28 + (Int32.toNatClampNeg x1))) (fun r4 => post r4 g2))) px) px
abbrev rm_X6_allies : Room := { frames := 7, cells := 4, slots := 24, locals := 110 }
set_option maxHeartbeats 4000000 in
set_option maxRecDepth 100000 in
theorem c_X6_allies (l : Launch) (hfl : l.flags = flags0) (D : va_G) (cs az a : Nat → Nat) (x1 : Int32) (g : St) (post : Int32 → St → Prop) (px : String → St → Prop) (hv : V_X6_allies x1 g post px) : uTi l yX6_allies wsX6_allies rm_X6_allies D cs az (gW cs a) [.ref (a 0), .int x1] g 4 24 post px := by
  refine u_ofTi (cc := cX6_allies) (maxL := 2) (by decide) rfl (Nat.le_of_ble_eq_true rfl) ?_
  intro p e s m args below meth c F ls hC hx0 hr hk hl hE
  have hx := hC.1.1; have hb := hC.1.2.1; have hml := hC.1.2.2.1; have hts := hC.1.2.2.2.2
  have hown : s.vm.findClass RX6 = some m.cls := hC.1.2.2.2.1
  have hl : lv_has ls 2 [(0, .ref (a 0)), (1, .int x1)] := hl
  unfold V_X6_allies at hv
  refine lv_iload_n hx hb dX6_allies_0 rfl (lv_at hl 1 rfl) ?_
  refine T_callSTv hC hx0 hk (c_X6_requirePlayer l hfl D cs az a x1 g _ _ hv) (cwS 1 hts gX6_allies_X6_requirePlayer rfl rfl rfl (by decide +kernel) ⟨Nat.le_of_ble_eq_true rfl, Nat.le_of_ble_eq_true rfl⟩) rfl hl rfl (Nat.le_of_ble_eq_true rfl) dX6_allies_1 hE (Nat.le_of_ble_eq_true rfl) (Nat.le_of_ble_eq_true rfl) (Nat.le_of_ble_eq_true rfl) (Nat.le_of_ble_eq_true rfl) (fun g1 H locs hv hE => ?_)
  refine W.widen (k := 1) (n := 6) (Nat.le_of_ble_eq_true rfl) (Nat.le_of_ble_eq_true rfl) ?_
  refine lv_aload_n hx hb dX6_allies_4 rfl (lv_at hl 0 rfl) ?_
  refine T_callVTv hC hx0 hk (c_X6_requireSave l hfl D cs az a  g1 _ _ hv) (cwV 0 hts gX6_allies_X6_requireSave rfl rfl rfl (by decide +kernel) ⟨Nat.le_of_ble_eq_true rfl, Nat.le_of_ble_eq_true rfl⟩) f_game rfl rfl hl rfl (Nat.le_of_ble_eq_true rfl) dX6_allies_5 hE (Nat.le_of_ble_eq_true rfl) (Nat.le_of_ble_eq_true rfl) (Nat.le_of_ble_eq_true rfl) (Nat.le_of_ble_eq_true rfl) (fun g2 H locs hv hE => ?_)
  refine W.widen (k := 2) (n := 12) (Nat.le_of_ble_eq_true rfl) (Nat.le_of_ble_eq_true rfl) ?_
  refine lv_aload_n hx hb dX6_allies_8 rfl (lv_at hl 0 rfl) ?_
  refine G_get (v := .ref (a 25)) hC hE (fun _ h => List.mem_cons_of_mem _ (List.mem_append_left _ (List.mem_append_left _ (List.mem_append_left _ (List.mem_append_right _ h))))) f_game rfl 4 (by decide) (hts (.fieldLink RX6 34 "SeedBattle" "copies" "[LSeedBattle$Copy;") (List.mem_of_getElem? (i := 1) rfl)) rfl dX6_allies_9 ?_
  refine lv_iload_n hx hb dX6_allies_12 rfl (lv_at hl 1 rfl) ?_
  have hq3 := vp_lt hv.1
  refine G_aald hC hE f_cpys (t := 4) rfl hv.1 dX6_allies_13 ?_
  have hv := hv.2
  refine G_getN (v := .int (g2.2 (28 + (Int32.toNatClampNeg x1)))) hC hE (fun _ h => List.mem_cons_of_mem _ (List.mem_append_left _ (List.mem_append_left _ (List.mem_append_right _ h)))) (f_copy hq3) rfl 5 (by decide) (List.mem_of_getElem? (i := 2) rfl) rfl dX6_allies_14 ?_
  refine G_callSs hC.1 hC.2.2.2.2.1 (c_J6_bitCount_0f7a4 l (g2.2 (28 + (Int32.toNatClampNeg x1))) _ hv) (va_cwS 1 hts gX6_allies_J6_bitCount_0f7a4 rfl rfl rfl (by decide +kernel) ⟨Nat.le_of_ble_eq_true rfl, Nat.le_of_ble_eq_true rfl⟩) rfl hl rfl (Nat.le_of_ble_eq_true rfl) dX6_allies_17 (Nat.le_of_ble_eq_true rfl) (Nat.le_of_ble_eq_true rfl) (fun r4 hv => ?_)
  exact T_zret hC hr hk hE rfl hv dX6_allies_20 (Nat.le_of_ble_eq_true rfl) (Nat.le_of_ble_eq_true rfl)
def J_X6_livingShare_52  (post : UInt32 → St → Prop) (px : String → St → Prop) (K30 : (Int32 × Int32 × Int32 × St) → Prop) (v1 : Int32) (v2 : Int32) (v3 : Int32) (g : St) : Prop := K30 (v1, v2, (v3 + 1), g)
def J_X6_livingShare_30  (post : UInt32 → St → Prop) (px : String → St → Prop) (K30 : (Int32 × Int32 × Int32 × St) → Prop) (v1 : Int32) (v2 : Int32) (v3 : Int32) (g : St) : Prop := ((v1 ≤ v3 → vf_n32 (FP.fdiv (FP.i2f v2) (FP.i2f v1)) ∧ (post (FP.fdiv (FP.i2f v2) (FP.i2f v1)) g)) ∧ (¬ v1 ≤ v3 → V_X5_lives 0 v3 g (fun r2 g1 => ((r2 = 0 → J_X6_livingShare_52 post px K30 v1 v2 v3 g1) ∧ (¬ r2 = 0 → J_X6_livingShare_52 post px K30 v1 (v2 + 1) v3 g1)))))
def V_X6_livingShare  (g : St) (post : UInt32 → St → Prop) (px : String → St → Prop) : Prop := ((¬ (g.2 3) = 0 → lpP (fun K30 (z : Int32 × Int32 × Int32 × St) => J_X6_livingShare_30 post px K30 z.1 z.2.1 z.2.2.1 z.2.2.2) ((g.2 3), 0, 0, g)) ∧ ((g.2 3) = 0 → px "java/lang/ArithmeticException" g))
abbrev rm_X6_livingShare : Room := { frames := 6, cells := 4, slots := 24, locals := 90 }
set_option maxHeartbeats 4000000 in
set_option maxRecDepth 100000 in
theorem c_X6_livingShare (l : Launch) (hfl : l.flags = flags0) (D : va_G) (cs az a : Nat → Nat)  (g : St) (post : UInt32 → St → Prop) (px : String → St → Prop) (hv : V_X6_livingShare  g post px) : uTf l yX6_livingShare wsX6_livingShare rm_X6_livingShare D cs az (gW cs a) [.ref (a 0)] g 4 24 post px := by
  refine u_ofTf (cc := cX6_livingShare) (maxL := 4) (by decide) rfl (Nat.le_of_ble_eq_true rfl) ?_
  intro p e s m args below meth c F ls hC hx0 hr hk hl hE
  have hx := hC.1.1; have hb := hC.1.2.1; have hml := hC.1.2.2.1; have hts := hC.1.2.2.2.2
  have hown : s.vm.findClass RX6 = some m.cls := hC.1.2.2.2.1
  have hl : lv_has ls 4 [(0, .ref (a 0))] := hl
  unfold V_X6_livingShare at hv
  have j_52 : ∀ (K30 : (Int32 × Int32 × Int32 × St) → Prop), (∀ (v1 : Int32) (v2 : Int32) (v3 : Int32) (g : St), K30 (v1, v2, v3, g) → ∀ (H : Heap) (locs : List Loc) (ls : Array Slot), uE D 52 gA (gO cs a) cs a F s g H locs → lv_has ls 4 [(0, .ref (a 0)), (1, .int v1), (2, .int v2), (3, .int v3)] → W p l e rm_X6_livingShare s m args below meth c H locs 0 0 (vx_MQ below (va_Qf post (uB D (uW 52 gA (gO cs a) cs a)) F) (uX9 D (uW 52 gA (gO cs a) cs a) px F) args s 4 24 F) (F0 m 30 ls [])) → ∀ (v1 : Int32) (v2 : Int32) (v3 : Int32) (g : St), J_X6_livingShare_52 post px K30 v1 v2 v3 g → ∀ (H : Heap) (locs : List Loc) (ls : Array Slot), uE D 52 gA (gO cs a) cs a F s g H locs → lv_has ls 4 [(0, .ref (a 0)), (1, .int v1), (2, .int v2), (3, .int v3)] → W p l e rm_X6_livingShare s m args below meth c H locs 0 0 (vx_MQ below (va_Qf post (uB D (uW 52 gA (gO cs a) cs a)) F) (uX9 D (uW 52 gA (gO cs a) cs a) px F) args s 4 24 F) (F0 m 52 ls []) := by
    intro K30 hK30 v1 v2 v3 g  hv
    intro H locs ls hE hl
    unfold J_X6_livingShare_52 at hv
    refine lv_iinc (v := (v3 + 1)) (lv' := [(3, .int (v3 + 1)), (0, .ref (a 0)), (1, .int v1), (2, .int v2)]) hx hb dX6_livingShare_52 hl (k := 3) rfl rfl (by decide) rfl (fun ls hl => ?_)
    refine lv_goto (tgt := 30) hx hb dX6_livingShare_55 (by decide) ?_
    exact hK30 _ _ _ _  hv _ _ _ hE (lv_sub hl [1, 2, 3, 0] rfl)
  have j_30 : ∀ (v1 : Int32) (v2 : Int32) (v3 : Int32) (g : St), lpP (fun K30 (z : Int32 × Int32 × Int32 × St) => J_X6_livingShare_30 post px K30 z.1 z.2.1 z.2.2.1 z.2.2.2) (v1, v2, v3, g) → ∀ (H : Heap) (locs : List Loc) (ls : Array Slot), uE D 52 gA (gO cs a) cs a F s g H locs → lv_has ls 4 [(0, .ref (a 0)), (1, .int v1), (2, .int v2), (3, .int v3)] → W p l e rm_X6_livingShare s m args below meth c H locs 0 0 (vx_MQ below (va_Qf post (uB D (uW 52 gA (gO cs a) cs a)) F) (uX9 D (uW 52 gA (gO cs a) cs a) px F) args s 4 24 F) (F0 m 30 ls []) := by
    intro  v1 v2 v3 g  hv
    obtain ⟨nn, hv⟩ := hv
    induction nn generalizing v1 v2 v3 g with
    | zero => exact False.elim hv
    | succ nn hK30 =>
      intro H locs ls hE hl
      have hv : J_X6_livingShare_30 post px (itP _ nn) v1 v2 v3 g := hv
      unfold J_X6_livingShare_30 at hv
      refine lv_iload_n hx hb dX6_livingShare_30 rfl (lv_at hl 3 rfl) ?_
      refine lv_iload_n hx hb dX6_livingShare_31 rfl (lv_at hl 1 rfl) ?_
      refine lv_icmp_ge (tgt := 58) hx hb dX6_livingShare_32 (by decide) (fun c => ?_) (fun c => ?_)
      · have hv := hv.1 c
        refine lv_iload_n hx hb dX6_livingShare_58 rfl (lv_at hl 2 rfl) ?_
        refine lv_i2f hx hb dX6_livingShare_59 ?_
        refine lv_iload_n hx hb dX6_livingShare_60 rfl (lv_at hl 1 rfl) ?_
        refine lv_i2f hx hb dX6_livingShare_61 ?_
        refine lv_fdiv hx hb dX6_livingShare_62 hv.1 ?_
        have hv := hv.2
        exact T_fret hC hr hk hE hv dX6_livingShare_63 (Nat.le_of_ble_eq_true rfl) (Nat.le_of_ble_eq_true rfl)
      · have hv := hv.2 c
        refine lv_aload_n hx hb dX6_livingShare_35 rfl (lv_at hl 0 rfl) ?_
        refine G_get (v := .ref (a 1)) hC hE (fun _ h => List.mem_cons_of_mem _ (List.mem_append_left _ (List.mem_append_left _ (List.mem_append_left _ (List.mem_append_left _ (List.mem_append_right _ h)))))) f_game rfl 0 (by decide) (hts (.fieldLink RX6 10 "SeedBattle" "field" "LSeedBattle$Field;") (List.mem_of_getElem? (i := 3) rfl)) rfl dX6_livingShare_36 ?_
        refine G_getN (v := .ref (a 4)) hC hE (fun _ h => List.mem_cons_of_mem _ (List.mem_append_left _ (List.mem_append_left _ (List.mem_append_left _ (List.mem_append_right _ h))))) (f_field (w := 0) (by decide)) rfl 1 (by decide) (List.mem_of_getElem? (i := 4) rfl) rfl dX6_livingShare_39 ?_
        refine lv_iload_n hx hb dX6_livingShare_42 rfl (lv_at hl 3 rfl) ?_
        refine T_callVi hC (c_X5_lives l D cs az a (w := 0) (by decide) v3 g _ hv) (cwV 1 hts gX6_livingShare_X5_lives rfl rfl rfl (by decide +kernel) ⟨Nat.le_of_ble_eq_true rfl, Nat.le_of_ble_eq_true rfl⟩) (f_units (w := 0) (by decide)) rfl rfl hl rfl (Nat.le_of_ble_eq_true rfl) dX6_livingShare_43 hE (Nat.le_of_ble_eq_true rfl) (Nat.le_of_ble_eq_true rfl) (fun r2 g1 H locs hv hE => ?_)
        refine lv_if_eq (tgt := 52) hx hb dX6_livingShare_46 (by decide) (fun c => ?_) (fun c => ?_)
        · have hv := hv.1 c
          exact j_52 _ hK30 _ _ _ _  hv _ _ _ hE (lv_sub hl [0, 1, 2, 3] rfl)
        · have hv := hv.2 c
          refine lv_iinc (v := (v2 + 1)) (lv' := [(2, .int (v2 + 1)), (0, .ref (a 0)), (1, .int v1), (3, .int v3)]) hx hb dX6_livingShare_49 hl (k := 2) rfl rfl (by decide) rfl (fun ls hl => ?_)
          exact j_52 _ hK30 _ _ _ _  hv _ _ _ hE (lv_sub hl [1, 2, 0, 3] rfl)
  refine lv_aload_n hx hb dX6_livingShare_0 rfl (lv_at hl 0 rfl) ?_
  refine G_get (v := .ref (a 1)) hC hE (fun _ h => List.mem_cons_of_mem _ (List.mem_append_left _ (List.mem_append_left _ (List.mem_append_left _ (List.mem_append_left _ (List.mem_append_right _ h)))))) f_game rfl 0 (by decide) (hts (.fieldLink RX6 10 "SeedBattle" "field" "LSeedBattle$Field;") (List.mem_of_getElem? (i := 3) rfl)) rfl dX6_livingShare_1 ?_
  refine G_getN (v := .ref (a 4)) hC hE (fun _ h => List.mem_cons_of_mem _ (List.mem_append_left _ (List.mem_append_left _ (List.mem_append_left _ (List.mem_append_right _ h))))) (f_field (w := 0) (by decide)) rfl 1 (by decide) (List.mem_of_getElem? (i := 4) rfl) rfl dX6_livingShare_4 ?_
  refine G_getN (v := .int (g.2 3)) hC hE (fun _ h => List.mem_cons_of_mem _ (List.mem_append_left _ (List.mem_append_left _ (List.mem_append_right _ h)))) (f_units (w := 0) (by decide)) rfl 4 (by decide) (List.mem_of_getElem? (i := 5) rfl) rfl dX6_livingShare_7 ?_
  refine lv_istore_n (lv' := [(1, .int (g.2 3)), (0, .ref (a 0))]) hx hb dX6_livingShare_10 rfl hl (by decide) rfl (fun ls hl => ?_)
  refine lv_iload_n hx hb dX6_livingShare_11 rfl (lv_at hl 0 rfl) ?_
  refine lv_if_ne (tgt := 26) hx hb dX6_livingShare_12 (by decide) (fun c => ?_) (fun c => ?_)
  · have hv := hv.1 c
    refine lv_iconst (v := 0) hx hb dX6_livingShare_26 (by decide) ?_
    refine lv_istore_n (lv' := [(2, .int 0), (1, .int (g.2 3)), (0, .ref (a 0))]) hx hb dX6_livingShare_27 rfl hl (by decide) rfl (fun ls hl => ?_)
    refine lv_iconst (v := 0) hx hb dX6_livingShare_28 (by decide) ?_
    refine lv_istore_n (lv' := [(3, .int 0), (2, .int 0), (1, .int (g.2 3)), (0, .ref (a 0))]) hx hb dX6_livingShare_29 rfl hl (by decide) rfl (fun ls hl => ?_)
    exact j_30  _ _ _ _  hv _ _ _ hE (lv_sub hl [3, 2, 1, 0] rfl)
  · have hv := hv.2 c
    exact T_throwW (px := px) hfl hC hx0 hk hE hl (cls := "java/lang/ArithmeticException") (text := "there are no units") (by decide +kernel) (hts (.classLink RX6 267 "java/lang/ArithmeticException") (List.mem_of_getElem? (i := 1) rfl)) (hts (.initialized "java/lang/ArithmeticException") (List.mem_of_getElem? (i := 2) rfl)) (by decide +kernel) (fun _ h => List.mem_cons_of_mem _ (List.mem_append_left _ (List.mem_append_right _ h))) (by decide +kernel) (by decide +kernel) dX6_livingShare_15 dX6_livingShare_18 dX6_livingShare_19 dX6_livingShare_22 dX6_livingShare_25 (Nat.le_of_ble_eq_true rfl) (Nat.le_of_ble_eq_true rfl) (Nat.le_of_ble_eq_true rfl) (Nat.le_of_ble_eq_true rfl) hv (Nat.le_of_ble_eq_true rfl) (Nat.le_of_ble_eq_true rfl)
def J_X6_meanAge_25  (post : UInt64 → St → Prop) (px : String → St → Prop) (K7 : (Int64 × Int32 × Int32 × St) → Prop) (K25 : (Int64 × Int32 × Int32 × Nat × Int32 × St) → Prop) (v1 : Int64) (v3 : Int32) (v4 : Int32) (q5 : Nat) (v6 : Int32) (g : St) : Prop := (((g.2 (10 + q5)) ≤ v6 → K7 (v1, (v3 + (g.2 (10 + q5))), (v4 + 1), g)) ∧ (¬ (g.2 (10 + q5)) ≤ v6 → V_X2_at q5 v6 g (fun r3 g2 => V_X6_turnOf r3 (fun r4 => K25 ((v1 + (Int32.toInt64 ((g.2 1) - r4))), v3, v4, q5, (v6 + 1), g2)))))
def J_X6_meanAge_7  (post : UInt64 → St → Prop) (px : String → St → Prop) (K7 : (Int64 × Int32 × Int32 × St) → Prop) (v1 : Int64) (v3 : Int32) (v4 : Int32) (g : St) : Prop := ((4 ≤ v4 → ((¬ v3 = 0 → vf_n64 (FP.ddiv (FP.l2d v1) (FP.i2d v3)) ∧ (post (FP.ddiv (FP.l2d v1) (FP.i2d v3)) g)) ∧ (v3 = 0 → px "java/lang/ArithmeticException" g))) ∧ (¬ 4 ≤ v4 → vp_in v4 4 ∧ (lpP (fun K25 (z : Int64 × Int32 × Int32 × Nat × Int32 × St) => J_X6_meanAge_25 post px K7 K25 z.1 z.2.1 z.2.2.1 z.2.2.2.1 z.2.2.2.2.1 z.2.2.2.2.2) (v1, v3, v4, (Int32.toNatClampNeg v4), 0, g))))
def V_X6_meanAge  (g : St) (post : UInt64 → St → Prop) (px : String → St → Prop) : Prop := lpP (fun K7 (z : Int64 × Int32 × Int32 × St) => J_X6_meanAge_7 post px K7 z.1 z.2.1 z.2.2.1 z.2.2.2) (0, 0, 0, g)
abbrev rm_X6_meanAge : Room := { frames := 6, cells := 4, slots := 24, locals := 90 }
set_option maxHeartbeats 4000000 in
set_option maxRecDepth 100000 in
theorem c_X6_meanAge (l : Launch) (hfl : l.flags = flags0) (D : va_G) (cs az a : Nat → Nat)  (g : St) (post : UInt64 → St → Prop) (px : String → St → Prop) (hv : V_X6_meanAge  g post px) : uTd l yX6_meanAge wsX6_meanAge rm_X6_meanAge D cs az (gW cs a) [.ref (a 0)] g 4 24 post px := by
  refine u_ofTd (cc := cX6_meanAge) (maxL := 7) (by decide) rfl (Nat.le_of_ble_eq_true rfl) ?_
  intro p e s m args below meth c F ls hC hx0 hr hk hl hE
  have hx := hC.1.1; have hb := hC.1.2.1; have hml := hC.1.2.2.1; have hts := hC.1.2.2.2.2
  have hown : s.vm.findClass RX6 = some m.cls := hC.1.2.2.2.1
  have hl : lv_has ls 7 [(0, .ref (a 0))] := hl
  unfold V_X6_meanAge at hv
  have j_25 : ∀ (K7 : (Int64 × Int32 × Int32 × St) → Prop), (∀ (v1 : Int64) (v3 : Int32) (v4 : Int32) (g : St), K7 (v1, v3, v4, g) → ∀ (H : Heap) (locs : List Loc) (ls : Array Slot), uE D 52 gA (gO cs a) cs a F s g H locs → lv_has ls 7 [(0, .ref (a 0)), (1, .long v1), (3, .int v3), (4, .int v4)] → W p l e rm_X6_meanAge s m args below meth c H locs 0 0 (vx_MQ below (va_Qd post (uB D (uW 52 gA (gO cs a) cs a)) F) (uX9 D (uW 52 gA (gO cs a) cs a) px F) args s 4 24 F) (F0 m 7 ls [])) → ∀ (v1 : Int64) (v3 : Int32) (v4 : Int32) (q5 : Nat) (v6 : Int32) (g : St), q5 < 4 → lpP (fun K25 (z : Int64 × Int32 × Int32 × Nat × Int32 × St) => J_X6_meanAge_25 post px K7 K25 z.1 z.2.1 z.2.2.1 z.2.2.2.1 z.2.2.2.2.1 z.2.2.2.2.2) (v1, v3, v4, q5, v6, g) → ∀ (H : Heap) (locs : List Loc) (ls : Array Slot), uE D 52 gA (gO cs a) cs a F s g H locs → lv_has ls 7 [(0, .ref (a 0)), (1, .long v1), (3, .int v3), (4, .int v4), (5, .ref (a (28 + 2 * q5))), (6, .int v6)] → W p l e rm_X6_meanAge s m args below meth c H locs 0 0 (vx_MQ below (va_Qd post (uB D (uW 52 gA (gO cs a) cs a)) F) (uX9 D (uW 52 gA (gO cs a) cs a) px F) args s 4 24 F) (F0 m 25 ls []) := by
    intro K7 hK7 v1 v3 v4 q5 v6 g hq5 hv
    obtain ⟨nn, hv⟩ := hv
    induction nn generalizing v1 v3 v4 q5 v6 g with
    | zero => exact False.elim hv
    | succ nn hK25 =>
      intro H locs ls hE hl
      have hv : J_X6_meanAge_25 post px K7 (itP _ nn) v1 v3 v4 q5 v6 g := hv
      unfold J_X6_meanAge_25 at hv
      refine lv_iload hx hb dX6_meanAge_25 (lv_at hl 5 rfl) ?_
      refine lv_aload hx hb dX6_meanAge_27 (lv_at hl 4 rfl) ?_
      refine G_getN (v := .int (g.2 (10 + q5))) hC hE (fun _ h => List.mem_cons_of_mem _ (List.mem_append_left _ (List.mem_append_left _ (List.mem_append_right _ h)))) (f_index hq5) rfl 1 (by decide) (List.mem_of_getElem? (i := 0) rfl) rfl dX6_meanAge_29 ?_
      refine lv_icmp_ge (tgt := 60) hx hb dX6_meanAge_32 (by decide) (fun c => ?_) (fun c => ?_)
      · have hv := hv.1 c
        refine lv_iload_n hx hb dX6_meanAge_60 rfl (lv_at hl 2 rfl) ?_
        refine lv_aload hx hb dX6_meanAge_61 (lv_at hl 4 rfl) ?_
        refine G_getN (v := .int (g.2 (10 + q5))) hC hE (fun _ h => List.mem_cons_of_mem _ (List.mem_append_left _ (List.mem_append_left _ (List.mem_append_right _ h)))) (f_index hq5) rfl 1 (by decide) (List.mem_of_getElem? (i := 0) rfl) rfl dX6_meanAge_63 ?_
        refine lv_iadd hx hb dX6_meanAge_66 ?_
        refine lv_istore_n (lv' := [(3, .int (v3 + (g.2 (10 + q5)))), (0, .ref (a 0)), (1, .long v1), (4, .int v4), (5, .ref (a (28 + 2 * q5))), (6, .int v6)]) hx hb dX6_meanAge_67 rfl hl (by decide) rfl (fun ls hl => ?_)
        refine lv_iinc (v := (v4 + 1)) (lv' := [(4, .int (v4 + 1)), (3, .int (v3 + (g.2 (10 + q5)))), (0, .ref (a 0)), (1, .long v1), (5, .ref (a (28 + 2 * q5))), (6, .int v6)]) hx hb dX6_meanAge_68 hl (k := 3) rfl rfl (by decide) rfl (fun ls hl => ?_)
        refine lv_goto (tgt := 7) hx hb dX6_meanAge_71 (by decide) ?_
        exact hK7 _ _ _ _  hv _ _ _ hE (lv_sub hl [2, 3, 1, 0] rfl)
      · have hv := hv.2 c
        refine lv_lload_n hx hb dX6_meanAge_35 rfl (lv_at hl 1 rfl) ?_
        refine lv_aload_n hx hb dX6_meanAge_36 rfl (lv_at hl 0 rfl) ?_
        refine G_get (v := .int (g.2 1)) hC hE (fun _ h => List.mem_cons_of_mem _ (List.mem_append_left _ (List.mem_append_left _ (List.mem_append_left _ (List.mem_append_right _ h))))) f_game rfl 8 (by decide) (hts (.fieldLink RX6 108 "SeedBattle" "turnsDone" "I") (List.mem_of_getElem? (i := 4) rfl)) rfl dX6_meanAge_37 ?_
        refine lv_aload hx hb dX6_meanAge_40 (lv_at hl 4 rfl) ?_
        refine lv_iload hx hb dX6_meanAge_42 (lv_at hl 5 rfl) ?_
        refine T_callVi hC (c_X2_at l D cs az a (ix := q5) hq5 v6 g _ hv) (cwV 1 hts gX6_meanAge_X2_at rfl rfl rfl (by decide +kernel) ⟨Nat.le_of_ble_eq_true rfl, Nat.le_of_ble_eq_true rfl⟩) (f_index hq5) rfl rfl hl rfl (Nat.le_of_ble_eq_true rfl) dX6_meanAge_44 hE (Nat.le_of_ble_eq_true rfl) (Nat.le_of_ble_eq_true rfl) (fun r3 g2 H locs hv hE => ?_)
        refine G_callSs hC.1 hC.2.2.2.2.1 (c_X6_turnOf l r3 _ hv) (va_cwS 1 hts gX6_meanAge_X6_turnOf rfl rfl rfl (by decide +kernel) ⟨Nat.le_of_ble_eq_true rfl, Nat.le_of_ble_eq_true rfl⟩) rfl hl rfl (Nat.le_of_ble_eq_true rfl) dX6_meanAge_47 (Nat.le_of_ble_eq_true rfl) (Nat.le_of_ble_eq_true rfl) (fun r4 hv => ?_)
        refine lv_isub hx hb dX6_meanAge_50 ?_
        refine lv_i2l (v := (Int32.toInt64 ((g.2 1) - r4))) hx hb dX6_meanAge_51 rfl ?_
        refine lv_ladd hx hb dX6_meanAge_52 ?_
        refine lv_lstore_n (lv' := [(1, .long (v1 + (Int32.toInt64 ((g.2 1) - r4)))), (0, .ref (a 0)), (3, .int v3), (4, .int v4), (5, .ref (a (28 + 2 * q5))), (6, .int v6)]) hx hb dX6_meanAge_53 rfl hl (by decide) rfl (fun ls hl => ?_)
        refine lv_iinc (v := (v6 + 1)) (lv' := [(6, .int (v6 + 1)), (1, .long (v1 + (Int32.toInt64 ((g.2 1) - r4)))), (0, .ref (a 0)), (3, .int v3), (4, .int v4), (5, .ref (a (28 + 2 * q5)))]) hx hb dX6_meanAge_54 hl (k := 5) rfl rfl (by decide) rfl (fun ls hl => ?_)
        refine lv_goto (tgt := 25) hx hb dX6_meanAge_57 (by decide) ?_
        exact hK25 _ _ _ _ _ _ hq5 hv _ _ _ hE (lv_sub hl [2, 1, 3, 4, 5, 0] rfl)
  have j_7 : ∀ (v1 : Int64) (v3 : Int32) (v4 : Int32) (g : St), lpP (fun K7 (z : Int64 × Int32 × Int32 × St) => J_X6_meanAge_7 post px K7 z.1 z.2.1 z.2.2.1 z.2.2.2) (v1, v3, v4, g) → ∀ (H : Heap) (locs : List Loc) (ls : Array Slot), uE D 52 gA (gO cs a) cs a F s g H locs → lv_has ls 7 [(0, .ref (a 0)), (1, .long v1), (3, .int v3), (4, .int v4)] → W p l e rm_X6_meanAge s m args below meth c H locs 0 0 (vx_MQ below (va_Qd post (uB D (uW 52 gA (gO cs a) cs a)) F) (uX9 D (uW 52 gA (gO cs a) cs a) px F) args s 4 24 F) (F0 m 7 ls []) := by
    intro  v1 v3 v4 g  hv
    obtain ⟨nn, hv⟩ := hv
    induction nn generalizing v1 v3 v4 g with
    | zero => exact False.elim hv
    | succ nn hK7 =>
      intro H locs ls hE hl
      have hv : J_X6_meanAge_7 post px (itP _ nn) v1 v3 v4 g := hv
      unfold J_X6_meanAge_7 at hv
      refine lv_iload hx hb dX6_meanAge_7 (lv_at hl 3 rfl) ?_
      refine lv_iconst (v := 4) hx hb dX6_meanAge_9 (by decide) ?_
      refine lv_icmp_ge (tgt := 74) hx hb dX6_meanAge_10 (by decide) (fun c => ?_) (fun c => ?_)
      · have hv := hv.1 c
        refine lv_iload_n hx hb dX6_meanAge_74 rfl (lv_at hl 2 rfl) ?_
        refine lv_if_ne (tgt := 89) hx hb dX6_meanAge_75 (by decide) (fun c => ?_) (fun c => ?_)
        · have hv := hv.1 c
          refine lv_lload_n hx hb dX6_meanAge_89 rfl (lv_at hl 1 rfl) ?_
          refine lv_l2d hx hb dX6_meanAge_90 ?_
          refine lv_iload_n hx hb dX6_meanAge_91 rfl (lv_at hl 2 rfl) ?_
          refine lv_i2d hx hb dX6_meanAge_92 ?_
          refine lv_ddiv hx hb dX6_meanAge_93 hv.1 ?_
          have hv := hv.2
          exact T_dret hC hr hk hE hv dX6_meanAge_94 (Nat.le_of_ble_eq_true rfl) (Nat.le_of_ble_eq_true rfl)
        · have hv := hv.2 c
          exact T_throwW (px := px) hfl hC hx0 hk hE hl (cls := "java/lang/ArithmeticException") (text := "there are no sightings") (by decide +kernel) (hts (.classLink RX6 267 "java/lang/ArithmeticException") (List.mem_of_getElem? (i := 1) rfl)) (hts (.initialized "java/lang/ArithmeticException") (List.mem_of_getElem? (i := 2) rfl)) (by decide +kernel) (fun _ h => List.mem_cons_of_mem _ (List.mem_append_left _ (List.mem_append_right _ h))) (by decide +kernel) (by decide +kernel) dX6_meanAge_78 dX6_meanAge_81 dX6_meanAge_82 dX6_meanAge_85 dX6_meanAge_88 (Nat.le_of_ble_eq_true rfl) (Nat.le_of_ble_eq_true rfl) (Nat.le_of_ble_eq_true rfl) (Nat.le_of_ble_eq_true rfl) hv (Nat.le_of_ble_eq_true rfl) (Nat.le_of_ble_eq_true rfl)
      · have hv := hv.2 c
        refine lv_aload_n hx hb dX6_meanAge_13 rfl (lv_at hl 0 rfl) ?_
        refine G_get (v := .ref (a 24)) hC hE (fun _ h => List.mem_cons_of_mem _ (List.mem_append_left _ (List.mem_append_left _ (List.mem_append_left _ (List.mem_append_right _ h))))) f_game rfl 3 (by decide) (hts (.fieldLink RX6 28 "SeedBattle" "indexes" "[LSeedBattle$Index;") (List.mem_of_getElem? (i := 3) rfl)) rfl dX6_meanAge_14 ?_
        refine lv_iload hx hb dX6_meanAge_17 (lv_at hl 3 rfl) ?_
        have hq1 := vp_lt hv.1
        refine G_aald hC hE f_idxs (t := 3) rfl hv.1 dX6_meanAge_19 ?_
        have hv := hv.2
        refine lv_astore (lv' := [(5, .ref (a (28 + 2 * (Int32.toNatClampNeg v4)))), (0, .ref (a 0)), (1, .long v1), (3, .int v3), (4, .int v4)]) hx hb dX6_meanAge_20 hl (by decide) rfl (fun ls hl => ?_)
        refine lv_iconst (v := 0) hx hb dX6_meanAge_22 (by decide) ?_
        refine lv_istore (lv' := [(6, .int 0), (5, .ref (a (28 + 2 * (Int32.toNatClampNeg v4)))), (0, .ref (a 0)), (1, .long v1), (3, .int v3), (4, .int v4)]) hx hb dX6_meanAge_23 hl (by decide) rfl (fun ls hl => ?_)
        exact j_25 _ hK7 _ _ _ _ _ _ hq1 hv _ _ _ hE (lv_sub hl [2, 3, 4, 5, 1, 0] rfl)
  refine lv_lconst (v := 0) hx hb dX6_meanAge_0 (by decide) ?_
  refine lv_lstore_n (lv' := [(1, .long 0), (0, .ref (a 0))]) hx hb dX6_meanAge_1 rfl hl (by decide) rfl (fun ls hl => ?_)
  refine lv_iconst (v := 0) hx hb dX6_meanAge_2 (by decide) ?_
  refine lv_istore_n (lv' := [(3, .int 0), (1, .long 0), (0, .ref (a 0))]) hx hb dX6_meanAge_3 rfl hl (by decide) rfl (fun ls hl => ?_)
  refine lv_iconst (v := 0) hx hb dX6_meanAge_4 (by decide) ?_
  refine lv_istore (lv' := [(4, .int 0), (3, .int 0), (1, .long 0), (0, .ref (a 0))]) hx hb dX6_meanAge_5 hl (by decide) rfl (fun ls hl => ?_)
  exact j_7  _ _ _ _  hv _ _ _ hE (lv_sub hl [3, 2, 1, 0] rfl)
