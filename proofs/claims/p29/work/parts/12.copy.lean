def V_X0_numberAt (ix : Nat) (x1 : Int32) (g : St) (post : Int32 → St → Prop) : Prop := ((x1 < 0 → post 0 g) ∧ (¬ x1 < 0 → (((g.2 (20 + ix)) ≤ x1 → post 0 g) ∧ (¬ (g.2 (20 + ix)) ≤ x1 → vp_in x1 60 ∧ (post (g.1 (37 + 4 * ix) (Int32.toNatClampNeg x1)) g)))))
abbrev rm_X0_numberAt : Room := { frames := 0, cells := 0, slots := 0, locals := 0 }
set_option maxHeartbeats 4000000 in
set_option maxRecDepth 100000 in
theorem c_X0_numberAt (l : Launch) (D : va_G) (cs az a : Nat → Nat) {ix : Nat} (hix : ix < 4) (x1 : Int32) (g : St) (post : Int32 → St → Prop) (hv : V_X0_numberAt ix x1 g post) : uMi l yX0_numberAt wsX0_numberAt rm_X0_numberAt D cs az (gW cs a) [.ref (a (36 + 4 * ix)), .int x1] g post := by
  refine u_ofI (cc := cX0_numberAt) (maxL := 2) (by decide) rfl (Nat.le_of_ble_eq_true rfl) ?_
  intro p e s m args below meth c F ls hC hr hk hl hE
  have hx := hC.1.1; have hb := hC.1.2.1; have hml := hC.1.2.2.1; have hts := hC.1.2.2.2.2
  have hown : s.vm.findClass RX0 = some m.cls := hC.1.2.2.2.1
  have hl : lv_has ls 2 [(0, .ref (a (36 + 4 * ix))), (1, .int x1)] := hl
  unfold V_X0_numberAt at hv
  refine lv_iload_n hx hb dX0_numberAt_0 rfl (lv_at hl 1 rfl) ?_
  refine lv_if_lt (tgt := 21) hx hb dX0_numberAt_1 (by decide) (fun c => ?_) (fun c => ?_)
  · have hv := hv.1 c
    refine lv_iconst (v := 0) hx hb dX0_numberAt_21 (by decide) ?_
    exact G_iret hC hr hk hE hv dX0_numberAt_22
  · have hv := hv.2 c
    refine lv_iload_n hx hb dX0_numberAt_4 rfl (lv_at hl 1 rfl) ?_
    refine lv_aload_n hx hb dX0_numberAt_5 rfl (lv_at hl 0 rfl) ?_
    refine G_get (v := .int (g.2 (20 + ix))) hC hE (fun _ h => List.mem_cons_of_mem _ (List.mem_append_left _ (List.mem_append_right _ h))) (f_copy hix) rfl 3 (by decide) (hts (.fieldLink RX0 33 "SeedBattle$Copy" "size" "I") (List.mem_of_getElem? (i := 1) rfl)) rfl dX0_numberAt_6 ?_
    refine lv_icmp_ge (tgt := 21) hx hb dX0_numberAt_9 (by decide) (fun c => ?_) (fun c => ?_)
    · have hv := hv.1 c
      refine lv_iconst (v := 0) hx hb dX0_numberAt_21 (by decide) ?_
      exact G_iret hC hr hk hE hv dX0_numberAt_22
    · have hv := hv.2 c
      refine lv_aload_n hx hb dX0_numberAt_12 rfl (lv_at hl 0 rfl) ?_
      refine G_get (v := .ref (a (37 + 4 * ix))) hC hE (fun _ h => List.mem_cons_of_mem _ (List.mem_append_left _ (List.mem_append_right _ h))) (f_copy hix) rfl 0 (by decide) (hts (.fieldLink RX0 9 "SeedBattle$Copy" "numbers" "[I") (List.mem_of_getElem? (i := 2) rfl)) rfl dX0_numberAt_13 ?_
      refine lv_iload_n hx hb dX0_numberAt_16 rfl (lv_at hl 1 rfl) ?_
      refine G_iald hC hE (f_cnums hix) hv.1 dX0_numberAt_17 ?_
      have hv := hv.2
      refine lv_goto (tgt := 22) hx hb dX0_numberAt_18 (by decide) ?_
      exact G_iret hC hr hk hE hv dX0_numberAt_22
def V_X0_isAlly (ix : Nat) (x1 : Int32) (g : St) (post : Int32 → St → Prop) : Prop := (((((g.2 (28 + ix)) >>> (x1 &&& 31)) &&& 1) = 0 → post 0 g) ∧ (¬ (((g.2 (28 + ix)) >>> (x1 &&& 31)) &&& 1) = 0 → post 1 g))
abbrev rm_X0_isAlly : Room := { frames := 0, cells := 0, slots := 0, locals := 0 }
set_option maxHeartbeats 4000000 in
set_option maxRecDepth 100000 in
theorem c_X0_isAlly (l : Launch) (D : va_G) (cs az a : Nat → Nat) {ix : Nat} (hix : ix < 4) (x1 : Int32) (g : St) (post : Int32 → St → Prop) (hv : V_X0_isAlly ix x1 g post) : uMi l yX0_isAlly wsX0_isAlly rm_X0_isAlly D cs az (gW cs a) [.ref (a (36 + 4 * ix)), .int x1] g post := by
  refine u_ofI (cc := cX0_isAlly) (maxL := 2) (by decide) rfl (Nat.le_of_ble_eq_true rfl) ?_
  intro p e s m args below meth c F ls hC hr hk hl hE
  have hx := hC.1.1; have hb := hC.1.2.1; have hml := hC.1.2.2.1; have hts := hC.1.2.2.2.2
  have hown : s.vm.findClass RX0 = some m.cls := hC.1.2.2.2.1
  have hl : lv_has ls 2 [(0, .ref (a (36 + 4 * ix))), (1, .int x1)] := hl
  unfold V_X0_isAlly at hv
  refine lv_aload_n hx hb dX0_isAlly_0 rfl (lv_at hl 0 rfl) ?_
  refine G_get (v := .int (g.2 (28 + ix))) hC hE (fun _ h => List.mem_cons_of_mem _ (List.mem_append_right _ h)) (f_copy hix) rfl 5 (by decide) (hts (.fieldLink RX0 43 "SeedBattle$Copy" "allyBits" "I") (List.mem_of_getElem? (i := 1) rfl)) rfl dX0_isAlly_1 ?_
  refine lv_iload_n hx hb dX0_isAlly_4 rfl (lv_at hl 1 rfl) ?_
  refine lv_ishr hx hb dX0_isAlly_5 ?_
  refine lv_iconst (v := 1) hx hb dX0_isAlly_6 (by decide) ?_
  refine lv_iand hx hb dX0_isAlly_7 ?_
  refine lv_if_eq (tgt := 15) hx hb dX0_isAlly_8 (by decide) (fun c => ?_) (fun c => ?_)
  · have hv := hv.1 c
    refine lv_iconst (v := 0) hx hb dX0_isAlly_15 (by decide) ?_
    exact G_zret hC hr hk hE rfl hv dX0_isAlly_16
  · have hv := hv.2 c
    refine lv_iconst (v := 1) hx hb dX0_isAlly_11 (by decide) ?_
    refine lv_goto (tgt := 16) hx hb dX0_isAlly_12 (by decide) ?_
    exact G_zret hC hr hk hE rfl hv dX0_isAlly_16
def J_X0_alliesAt_31 (ix : Nat) (x1 : Int32) (post : Int32 → St → Prop) (K5 : (Int32 × Int32 × Int32 × St) → Prop) (v1 : Int32) (v3 : Int32) (v4 : Int32) (g : St) : Prop := K5 (v1, v3, (v4 + 1), g)
def J_X0_alliesAt_5 (ix : Nat) (x1 : Int32) (post : Int32 → St → Prop) (K5 : (Int32 × Int32 × Int32 × St) → Prop) (v1 : Int32) (v3 : Int32) (v4 : Int32) (g : St) : Prop := ((4 ≤ v4 → post v3 g) ∧ (¬ 4 ≤ v4 → V_X0_isAlly ix v4 g (fun r2 g1 => ((r2 = 0 → J_X0_alliesAt_31 ix x1 post K5 v1 v3 v4 g1) ∧ (¬ r2 = 0 → vp_in v4 4 ∧ (V_X0_numberAt (Int32.toNatClampNeg v4) v1 g1 (fun r5 g4 => J_X0_alliesAt_31 ix x1 post K5 v1 (v3 ^^^ r5) v4 g4)))))))
def V_X0_alliesAt (ix : Nat) (x1 : Int32) (g : St) (post : Int32 → St → Prop) : Prop := lpP (fun K5 (z : Int32 × Int32 × Int32 × St) => J_X0_alliesAt_5 ix x1 post K5 z.1 z.2.1 z.2.2.1 z.2.2.2) (x1, 0, 0, g)
abbrev rm_X0_alliesAt : Room := { frames := 1, cells := 0, slots := 0, locals := 21 }
set_option maxHeartbeats 4000000 in
set_option maxRecDepth 100000 in
theorem c_X0_alliesAt (l : Launch) (D : va_G) (cs az a : Nat → Nat) {ix : Nat} (hix : ix < 4) (x1 : Int32) (g : St) (post : Int32 → St → Prop) (hv : V_X0_alliesAt ix x1 g post) : uMi l yX0_alliesAt wsX0_alliesAt rm_X0_alliesAt D cs az (gW cs a) [.ref (a (36 + 4 * ix)), .int x1, .ref (a 25)] g post := by
  refine u_ofI (cc := cX0_alliesAt) (maxL := 5) (by decide) rfl (Nat.le_of_ble_eq_true rfl) ?_
  intro p e s m args below meth c F ls hC hr hk hl hE
  have hx := hC.1.1; have hb := hC.1.2.1; have hml := hC.1.2.2.1; have hts := hC.1.2.2.2.2
  have hown : s.vm.findClass RX0 = some m.cls := hC.1.2.2.2.1
  have hl : lv_has ls 5 [(0, .ref (a (36 + 4 * ix))), (1, .int x1), (2, .ref (a 25))] := hl
  unfold V_X0_alliesAt at hv
  have j_31 : ∀ (K5 : (Int32 × Int32 × Int32 × St) → Prop), (∀ (v1 : Int32) (v3 : Int32) (v4 : Int32) (g : St), K5 (v1, v3, v4, g) → ∀ (H : Heap) (locs : List Loc) (ls : Array Slot), uE D 52 gA (gO cs a) cs a F s g H locs → lv_has ls 5 [(0, .ref (a (36 + 4 * ix))), (1, .int v1), (2, .ref (a 25)), (3, .int v3), (4, .int v4)] → W p l e rm_X0_alliesAt s m args below meth c H locs 0 0 (MQ below (va_Qi post (uB D (uW 52 gA (gO cs a) cs a)) F) args s 0 0 F) (F0 m 5 ls [])) → ∀ (v1 : Int32) (v3 : Int32) (v4 : Int32) (g : St), J_X0_alliesAt_31 ix x1 post K5 v1 v3 v4 g → ∀ (H : Heap) (locs : List Loc) (ls : Array Slot), uE D 52 gA (gO cs a) cs a F s g H locs → lv_has ls 5 [(0, .ref (a (36 + 4 * ix))), (1, .int v1), (2, .ref (a 25)), (3, .int v3), (4, .int v4)] → W p l e rm_X0_alliesAt s m args below meth c H locs 0 0 (MQ below (va_Qi post (uB D (uW 52 gA (gO cs a) cs a)) F) args s 0 0 F) (F0 m 31 ls []) := by
    intro K5 hK5 v1 v3 v4 g  hv
    intro H locs ls hE hl
    unfold J_X0_alliesAt_31 at hv
    refine lv_iinc (v := (v4 + 1)) (lv' := [(4, .int (v4 + 1)), (0, .ref (a (36 + 4 * ix))), (1, .int v1), (2, .ref (a 25)), (3, .int v3)]) hx hb dX0_alliesAt_31 hl (k := 4) rfl rfl (by decide) rfl (fun ls hl => ?_)
    refine lv_goto (tgt := 5) hx hb dX0_alliesAt_34 (by decide) ?_
    exact hK5 _ _ _ _  hv _ _ _ hE (lv_sub hl [1, 2, 3, 4, 0] rfl)
  have j_5 : ∀ (v1 : Int32) (v3 : Int32) (v4 : Int32) (g : St), lpP (fun K5 (z : Int32 × Int32 × Int32 × St) => J_X0_alliesAt_5 ix x1 post K5 z.1 z.2.1 z.2.2.1 z.2.2.2) (v1, v3, v4, g) → ∀ (H : Heap) (locs : List Loc) (ls : Array Slot), uE D 52 gA (gO cs a) cs a F s g H locs → lv_has ls 5 [(0, .ref (a (36 + 4 * ix))), (1, .int v1), (2, .ref (a 25)), (3, .int v3), (4, .int v4)] → W p l e rm_X0_alliesAt s m args below meth c H locs 0 0 (MQ below (va_Qi post (uB D (uW 52 gA (gO cs a) cs a)) F) args s 0 0 F) (F0 m 5 ls []) := by
    intro  v1 v3 v4 g  hv
    obtain ⟨nn, hv⟩ := hv
    induction nn generalizing v1 v3 v4 g with
    | zero => exact False.elim hv
    | succ nn hK5 =>
      intro H locs ls hE hl
      have hv : J_X0_alliesAt_5 ix x1 post (itP _ nn) v1 v3 v4 g := hv
      unfold J_X0_alliesAt_5 at hv
      refine lv_iload hx hb dX0_alliesAt_5 (lv_at hl 4 rfl) ?_
      refine lv_iconst (v := 4) hx hb dX0_alliesAt_7 (by decide) ?_
      refine lv_icmp_ge (tgt := 37) hx hb dX0_alliesAt_8 (by decide) (fun c => ?_) (fun c => ?_)
      · have hv := hv.1 c
        refine lv_iload_n hx hb dX0_alliesAt_37 rfl (lv_at hl 3 rfl) ?_
        exact G_iret hC hr hk hE hv dX0_alliesAt_38
      · have hv := hv.2 c
        refine lv_aload_n hx hb dX0_alliesAt_11 rfl (lv_at hl 0 rfl) ?_
        refine lv_iload hx hb dX0_alliesAt_12 (lv_at hl 4 rfl) ?_
        refine G_callVi hC (c_X0_isAlly l D cs az a (ix := ix) hix v4 g _ hv) (cwV 1 hts gX0_alliesAt_X0_isAlly rfl rfl rfl (by decide +kernel) ⟨Nat.le_of_ble_eq_true rfl, Nat.le_of_ble_eq_true rfl⟩) (f_copy hix) rfl rfl hl rfl (Nat.le_of_ble_eq_true rfl) dX0_alliesAt_14 hE (fun r2 g1 H locs hv hE => ?_)
        refine lv_if_eq (tgt := 31) hx hb dX0_alliesAt_17 (by decide) (fun c => ?_) (fun c => ?_)
        · have hv := hv.1 c
          exact j_31 _ hK5 _ _ _ _  hv _ _ _ hE (lv_sub hl [0, 1, 2, 3, 4] rfl)
        · have hv := hv.2 c
          refine lv_iload_n hx hb dX0_alliesAt_20 rfl (lv_at hl 3 rfl) ?_
          refine lv_aload_n hx hb dX0_alliesAt_21 rfl (lv_at hl 2 rfl) ?_
          refine lv_iload hx hb dX0_alliesAt_22 (lv_at hl 4 rfl) ?_
          have hq3 := vp_lt hv.1
          refine G_aald hC hE f_cpys (t := 4) rfl hv.1 dX0_alliesAt_24 ?_
          have hv := hv.2
          refine lv_iload_n hx hb dX0_alliesAt_25 rfl (lv_at hl 1 rfl) ?_
          refine G_callVi hC (c_X0_numberAt l D cs az a (ix := (Int32.toNatClampNeg v4)) hq3 v1 g1 _ hv) (cwV 1 hts gX0_alliesAt_X0_numberAt rfl rfl rfl (by decide +kernel) ⟨Nat.le_of_ble_eq_true rfl, Nat.le_of_ble_eq_true rfl⟩) (f_copy hq3) rfl rfl hl rfl (Nat.le_of_ble_eq_true rfl) dX0_alliesAt_26 hE (fun r5 g4 H locs hv hE => ?_)
          refine lv_ixor hx hb dX0_alliesAt_29 ?_
          refine lv_istore_n (lv' := [(3, .int (v3 ^^^ r5)), (0, .ref (a (36 + 4 * ix))), (1, .int v1), (2, .ref (a 25)), (4, .int v4)]) hx hb dX0_alliesAt_30 rfl hl (by decide) rfl (fun ls hl => ?_)
          exact j_31 _ hK5 _ _ _ _  hv _ _ _ hE (lv_sub hl [1, 2, 3, 0, 4] rfl)
  refine lv_iconst (v := 0) hx hb dX0_alliesAt_0 (by decide) ?_
  refine lv_istore_n (lv' := [(3, .int 0), (0, .ref (a (36 + 4 * ix))), (1, .int x1), (2, .ref (a 25))]) hx hb dX0_alliesAt_1 rfl hl (by decide) rfl (fun ls hl => ?_)
  refine lv_iconst (v := 0) hx hb dX0_alliesAt_2 (by decide) ?_
  refine lv_istore (lv' := [(4, .int 0), (3, .int 0), (0, .ref (a (36 + 4 * ix))), (1, .int x1), (2, .ref (a 25))]) hx hb dX0_alliesAt_3 hl (by decide) rfl (fun ls hl => ?_)
  exact j_5  _ _ _ _  hv _ _ _ hE (lv_sub hl [2, 3, 4, 1, 0] rfl)
def J_X0_keepParity_2 (ix : Nat) (post : St → Prop) (K2 : (Int32 × St) → Prop) (v2 : Int32) (g : St) : Prop := ((60 ≤ v2 → post g) ∧ (¬ 60 ≤ v2 → V_X0_numberAt ix v2 g (fun r2 g1 => V_X0_alliesAt ix v2 g1 (fun r4 g3 => vp_in v2 60 ∧ (K2 ((v2 + 1), (sA g3 (38 + 4 * ix) (upd (g3.1 (38 + 4 * ix)) (Int32.toNatClampNeg v2) (r2 ^^^ r4)))))))))
def V_X0_keepParity (ix : Nat) (g : St) (post : St → Prop) : Prop := lpP (fun K2 (z : Int32 × St) => J_X0_keepParity_2 ix post K2 z.1 z.2) (0, g)
abbrev rm_X0_keepParity : Room := { frames := 2, cells := 0, slots := 0, locals := 45 }
set_option maxHeartbeats 4000000 in
set_option maxRecDepth 100000 in
theorem c_X0_keepParity (l : Launch) (D : va_G) (cs az a : Nat → Nat) {ix : Nat} (hix : ix < 4)  (g : St) (post : St → Prop) (hv : V_X0_keepParity ix g post) : uMv l yX0_keepParity wsX0_keepParity rm_X0_keepParity D cs az (gW cs a) [.ref (a (36 + 4 * ix)), .ref (a 25)] g post := by
  refine u_ofV (cc := cX0_keepParity) (maxL := 3) (by decide) rfl (Nat.le_of_ble_eq_true rfl) ?_
  intro p e s m args below meth c F ls hC hr hk hl hE
  have hx := hC.1.1; have hb := hC.1.2.1; have hml := hC.1.2.2.1; have hts := hC.1.2.2.2.2
  have hown : s.vm.findClass RX0 = some m.cls := hC.1.2.2.2.1
  have hl : lv_has ls 3 [(0, .ref (a (36 + 4 * ix))), (1, .ref (a 25))] := hl
  unfold V_X0_keepParity at hv
  have j_2 : ∀ (v2 : Int32) (g : St), lpP (fun K2 (z : Int32 × St) => J_X0_keepParity_2 ix post K2 z.1 z.2) (v2, g) → ∀ (H : Heap) (locs : List Loc) (ls : Array Slot), uE D 52 gA (gO cs a) cs a F s g H locs → lv_has ls 3 [(0, .ref (a (36 + 4 * ix))), (1, .ref (a 25)), (2, .int v2)] → W p l e rm_X0_keepParity s m args below meth c H locs 0 0 (MQ below (va_Qv post (uB D (uW 52 gA (gO cs a) cs a)) F) args s 0 0 F) (F0 m 2 ls []) := by
    intro  v2 g  hv
    obtain ⟨nn, hv⟩ := hv
    induction nn generalizing v2 g with
    | zero => exact False.elim hv
    | succ nn hK2 =>
      intro H locs ls hE hl
      have hv : J_X0_keepParity_2 ix post (itP _ nn) v2 g := hv
      unfold J_X0_keepParity_2 at hv
      refine lv_iload_n hx hb dX0_keepParity_2 rfl (lv_at hl 2 rfl) ?_
      refine lv_bipush (v := 60) hx hb dX0_keepParity_3 (by decide) ?_
      refine lv_icmp_ge (tgt := 32) hx hb dX0_keepParity_5 (by decide) (fun c => ?_) (fun c => ?_)
      · have hv := hv.1 c
        exact G_vret hC hr hk hE hv dX0_keepParity_32
      · have hv := hv.2 c
        refine lv_aload_n hx hb dX0_keepParity_8 rfl (lv_at hl 0 rfl) ?_
        refine G_get (v := .ref (a (38 + 4 * ix))) hC hE (fun _ h => List.mem_cons_of_mem _ (List.mem_append_left _ (List.mem_append_right _ h))) (f_copy hix) rfl 1 (by decide) (hts (.fieldLink RX0 15 "SeedBattle$Copy" "parity" "[I") (List.mem_of_getElem? (i := 1) rfl)) rfl dX0_keepParity_9 ?_
        refine lv_iload_n hx hb dX0_keepParity_12 rfl (lv_at hl 2 rfl) ?_
        refine lv_aload_n hx hb dX0_keepParity_13 rfl (lv_at hl 0 rfl) ?_
        refine lv_iload_n hx hb dX0_keepParity_14 rfl (lv_at hl 2 rfl) ?_
        refine G_callVi hC (c_X0_numberAt l D cs az a (ix := ix) hix v2 g _ hv) (cwV 1 hts gX0_keepParity_X0_numberAt rfl rfl rfl (by decide +kernel) ⟨Nat.le_of_ble_eq_true rfl, Nat.le_of_ble_eq_true rfl⟩) (f_copy hix) rfl rfl hl rfl (Nat.le_of_ble_eq_true rfl) dX0_keepParity_15 hE (fun r2 g1 H locs hv hE => ?_)
        refine lv_aload_n hx hb dX0_keepParity_18 rfl (lv_at hl 0 rfl) ?_
        refine lv_iload_n hx hb dX0_keepParity_19 rfl (lv_at hl 2 rfl) ?_
        refine lv_aload_n hx hb dX0_keepParity_20 rfl (lv_at hl 1 rfl) ?_
        refine G_callVi hC (c_X0_alliesAt l D cs az a (ix := ix) hix v2 g1 _ hv) (cwV 2 hts gX0_keepParity_X0_alliesAt rfl rfl rfl (by decide +kernel) ⟨Nat.le_of_ble_eq_true rfl, Nat.le_of_ble_eq_true rfl⟩) (f_copy hix) rfl rfl hl rfl (Nat.le_of_ble_eq_true rfl) dX0_keepParity_21 hE (fun r4 g3 H locs hv hE => ?_)
        refine lv_ixor hx hb dX0_keepParity_24 ?_
        refine G_iast hC hE (f_cpar hix) hv.1 dX0_keepParity_25 (fun H locs hE => ?_)
        have hv := hv.2
        refine lv_iinc (v := (v2 + 1)) (lv' := [(2, .int (v2 + 1)), (0, .ref (a (36 + 4 * ix))), (1, .ref (a 25))]) hx hb dX0_keepParity_26 hl (k := 2) rfl rfl (by decide) rfl (fun ls hl => ?_)
        refine lv_goto (tgt := 2) hx hb dX0_keepParity_29 (by decide) ?_
        exact hK2 _ _  hv _ _ _ hE (lv_sub hl [1, 2, 0] rfl)
  refine lv_iconst (v := 0) hx hb dX0_keepParity_0 (by decide) ?_
  refine lv_istore_n (lv' := [(2, .int 0), (0, .ref (a (36 + 4 * ix))), (1, .ref (a 25))]) hx hb dX0_keepParity_1 rfl hl (by decide) rfl (fun ls hl => ?_)
  exact j_2  _ _  hv _ _ _ hE (lv_sub hl [1, 2, 0] rfl)
def V_X0_blockCount (ix : Nat) (g : St) (post : Int32 → St → Prop) : Prop := post ((((g.2 (20 + ix)) + 4) - 1) / 4) g
abbrev rm_X0_blockCount : Room := { frames := 0, cells := 0, slots := 0, locals := 0 }
set_option maxHeartbeats 4000000 in
set_option maxRecDepth 100000 in
theorem c_X0_blockCount (l : Launch) (D : va_G) (cs az a : Nat → Nat) {ix : Nat} (hix : ix < 4)  (g : St) (post : Int32 → St → Prop) (hv : V_X0_blockCount ix g post) : uMi l yX0_blockCount wsX0_blockCount rm_X0_blockCount D cs az (gW cs a) [.ref (a (36 + 4 * ix))] g post := by
  refine u_ofI (cc := cX0_blockCount) (maxL := 1) (by decide) rfl (Nat.le_of_ble_eq_true rfl) ?_
  intro p e s m args below meth c F ls hC hr hk hl hE
  have hx := hC.1.1; have hb := hC.1.2.1; have hml := hC.1.2.2.1; have hts := hC.1.2.2.2.2
  have hown : s.vm.findClass RX0 = some m.cls := hC.1.2.2.2.1
  have hl : lv_has ls 1 [(0, .ref (a (36 + 4 * ix)))] := hl
  unfold V_X0_blockCount at hv
  refine lv_aload_n hx hb dX0_blockCount_0 rfl (lv_at hl 0 rfl) ?_
  refine G_get (v := .int (g.2 (20 + ix))) hC hE (fun _ h => List.mem_cons_of_mem _ (List.mem_append_right _ h)) (f_copy hix) rfl 3 (by decide) (hts (.fieldLink RX0 33 "SeedBattle$Copy" "size" "I") (List.mem_of_getElem? (i := 1) rfl)) rfl dX0_blockCount_1 ?_
  refine lv_iconst (v := 4) hx hb dX0_blockCount_4 (by decide) ?_
  refine lv_iadd hx hb dX0_blockCount_5 ?_
  refine lv_iconst (v := 1) hx hb dX0_blockCount_6 (by decide) ?_
  refine lv_isub hx hb dX0_blockCount_7 ?_
  refine lv_iconst (v := 4) hx hb dX0_blockCount_8 (by decide) ?_
  refine lv_idiv hx hb dX0_blockCount_9 (by decide) ?_
  exact G_iret hC hr hk hE hv dX0_blockCount_10
def V_X0_isBroken (ix : Nat) (x1 : Int32) (g : St) (post : Int32 → St → Prop) : Prop := ((x1 < 0 → post 0 g) ∧ (¬ x1 < 0 → V_X0_blockCount ix g (fun r2 g1 => ((r2 ≤ x1 → post 0 g1) ∧ (¬ r2 ≤ x1 → (((((g1.2 (24 + ix)) >>> (x1 &&& 31)) &&& 1) = 0 → post 0 g1) ∧ (¬ (((g1.2 (24 + ix)) >>> (x1 &&& 31)) &&& 1) = 0 → post 1 g1)))))))
abbrev rm_X0_isBroken : Room := { frames := 1, cells := 0, slots := 0, locals := 20 }
set_option maxHeartbeats 4000000 in
set_option maxRecDepth 100000 in
theorem c_X0_isBroken (l : Launch) (D : va_G) (cs az a : Nat → Nat) {ix : Nat} (hix : ix < 4) (x1 : Int32) (g : St) (post : Int32 → St → Prop) (hv : V_X0_isBroken ix x1 g post) : uMi l yX0_isBroken wsX0_isBroken rm_X0_isBroken D cs az (gW cs a) [.ref (a (36 + 4 * ix)), .int x1] g post := by
  refine u_ofI (cc := cX0_isBroken) (maxL := 2) (by decide) rfl (Nat.le_of_ble_eq_true rfl) ?_
  intro p e s m args below meth c F ls hC hr hk hl hE
  have hx := hC.1.1; have hb := hC.1.2.1; have hml := hC.1.2.2.1; have hts := hC.1.2.2.2.2
  have hown : s.vm.findClass RX0 = some m.cls := hC.1.2.2.2.1
  have hl : lv_has ls 2 [(0, .ref (a (36 + 4 * ix))), (1, .int x1)] := hl
  unfold V_X0_isBroken at hv
  refine lv_iload_n hx hb dX0_isBroken_0 rfl (lv_at hl 1 rfl) ?_
  refine lv_if_lt (tgt := 27) hx hb dX0_isBroken_1 (by decide) (fun c => ?_) (fun c => ?_)
  · have hv := hv.1 c
    refine lv_iconst (v := 0) hx hb dX0_isBroken_27 (by decide) ?_
    exact G_zret hC hr hk hE rfl hv dX0_isBroken_28
  · have hv := hv.2 c
    refine lv_iload_n hx hb dX0_isBroken_4 rfl (lv_at hl 1 rfl) ?_
    refine lv_aload_n hx hb dX0_isBroken_5 rfl (lv_at hl 0 rfl) ?_
    refine G_callVi hC (c_X0_blockCount l D cs az a (ix := ix) hix  g _ hv) (cwV 0 hts gX0_isBroken_X0_blockCount rfl rfl rfl (by decide +kernel) ⟨Nat.le_of_ble_eq_true rfl, Nat.le_of_ble_eq_true rfl⟩) (f_copy hix) rfl rfl hl rfl (Nat.le_of_ble_eq_true rfl) dX0_isBroken_6 hE (fun r2 g1 H locs hv hE => ?_)
    refine lv_icmp_ge (tgt := 27) hx hb dX0_isBroken_9 (by decide) (fun c => ?_) (fun c => ?_)
    · have hv := hv.1 c
      refine lv_iconst (v := 0) hx hb dX0_isBroken_27 (by decide) ?_
      exact G_zret hC hr hk hE rfl hv dX0_isBroken_28
    · have hv := hv.2 c
      refine lv_aload_n hx hb dX0_isBroken_12 rfl (lv_at hl 0 rfl) ?_
      refine G_get (v := .int (g1.2 (24 + ix))) hC hE (fun _ h => List.mem_cons_of_mem _ (List.mem_append_right _ h)) (f_copy hix) rfl 4 (by decide) (hts (.fieldLink RX0 40 "SeedBattle$Copy" "brokenBits" "I") (List.mem_of_getElem? (i := 1) rfl)) rfl dX0_isBroken_13 ?_
      refine lv_iload_n hx hb dX0_isBroken_16 rfl (lv_at hl 1 rfl) ?_
      refine lv_ishr hx hb dX0_isBroken_17 ?_
      refine lv_iconst (v := 1) hx hb dX0_isBroken_18 (by decide) ?_
      refine lv_iand hx hb dX0_isBroken_19 ?_
      refine lv_if_eq (tgt := 27) hx hb dX0_isBroken_20 (by decide) (fun c => ?_) (fun c => ?_)
      · have hv := hv.1 c
        refine lv_iconst (v := 0) hx hb dX0_isBroken_27 (by decide) ?_
        exact G_zret hC hr hk hE rfl hv dX0_isBroken_28
      · have hv := hv.2 c
        refine lv_iconst (v := 1) hx hb dX0_isBroken_23 (by decide) ?_
        refine lv_goto (tgt := 28) hx hb dX0_isBroken_24 (by decide) ?_
        exact G_zret hC hr hk hE rfl hv dX0_isBroken_28
def V_X0_anyBroken (ix : Nat) (g : St) (post : Int32 → St → Prop) : Prop := (((g.2 (24 + ix)) = 0 → post 0 g) ∧ (¬ (g.2 (24 + ix)) = 0 → post 1 g))
abbrev rm_X0_anyBroken : Room := { frames := 0, cells := 0, slots := 0, locals := 0 }
set_option maxHeartbeats 4000000 in
set_option maxRecDepth 100000 in
theorem c_X0_anyBroken (l : Launch) (D : va_G) (cs az a : Nat → Nat) {ix : Nat} (hix : ix < 4)  (g : St) (post : Int32 → St → Prop) (hv : V_X0_anyBroken ix g post) : uMi l yX0_anyBroken wsX0_anyBroken rm_X0_anyBroken D cs az (gW cs a) [.ref (a (36 + 4 * ix))] g post := by
  refine u_ofI (cc := cX0_anyBroken) (maxL := 1) (by decide) rfl (Nat.le_of_ble_eq_true rfl) ?_
  intro p e s m args below meth c F ls hC hr hk hl hE
  have hx := hC.1.1; have hb := hC.1.2.1; have hml := hC.1.2.2.1; have hts := hC.1.2.2.2.2
  have hown : s.vm.findClass RX0 = some m.cls := hC.1.2.2.2.1
  have hl : lv_has ls 1 [(0, .ref (a (36 + 4 * ix)))] := hl
  unfold V_X0_anyBroken at hv
  refine lv_aload_n hx hb dX0_anyBroken_0 rfl (lv_at hl 0 rfl) ?_
  refine G_get (v := .int (g.2 (24 + ix))) hC hE (fun _ h => List.mem_cons_of_mem _ (List.mem_append_right _ h)) (f_copy hix) rfl 4 (by decide) (hts (.fieldLink RX0 40 "SeedBattle$Copy" "brokenBits" "I") (List.mem_of_getElem? (i := 1) rfl)) rfl dX0_anyBroken_1 ?_
  refine lv_if_eq (tgt := 11) hx hb dX0_anyBroken_4 (by decide) (fun c => ?_) (fun c => ?_)
  · have hv := hv.1 c
    refine lv_iconst (v := 0) hx hb dX0_anyBroken_11 (by decide) ?_
    exact G_zret hC hr hk hE rfl hv dX0_anyBroken_12
  · have hv := hv.2 c
    refine lv_iconst (v := 1) hx hb dX0_anyBroken_7 (by decide) ?_
    refine lv_goto (tgt := 12) hx hb dX0_anyBroken_8 (by decide) ?_
    exact G_zret hC hr hk hE rfl hv dX0_anyBroken_12
def V_X0_blockEnd (ix : Nat) (x1 : Int32) (g : St) (post : Int32 → St → Prop) : Prop := post (if (g.2 (20 + ix)) < ((4 * x1) + 4) then (g.2 (20 + ix)) else ((4 * x1) + 4)) g
abbrev rm_X0_blockEnd : Room := { frames := 1, cells := 0, slots := 0, locals := 21 }
set_option maxHeartbeats 4000000 in
set_option maxRecDepth 100000 in
theorem c_X0_blockEnd (l : Launch) (D : va_G) (cs az a : Nat → Nat) {ix : Nat} (hix : ix < 4) (x1 : Int32) (g : St) (post : Int32 → St → Prop) (hv : V_X0_blockEnd ix x1 g post) : uMi l yX0_blockEnd wsX0_blockEnd rm_X0_blockEnd D cs az (gW cs a) [.ref (a (36 + 4 * ix)), .int x1] g post := by
  refine u_ofI (cc := cX0_blockEnd) (maxL := 2) (by decide) rfl (Nat.le_of_ble_eq_true rfl) ?_
  intro p e s m args below meth c F ls hC hr hk hl hE
  have hx := hC.1.1; have hb := hC.1.2.1; have hml := hC.1.2.2.1; have hts := hC.1.2.2.2.2
  have hown : s.vm.findClass RX0 = some m.cls := hC.1.2.2.2.1
  have hl : lv_has ls 2 [(0, .ref (a (36 + 4 * ix))), (1, .int x1)] := hl
  unfold V_X0_blockEnd at hv
  refine lv_iconst (v := 4) hx hb dX0_blockEnd_0 (by decide) ?_
  refine lv_iload_n hx hb dX0_blockEnd_1 rfl (lv_at hl 1 rfl) ?_
  refine lv_imul hx hb dX0_blockEnd_2 ?_
  refine lv_iconst (v := 4) hx hb dX0_blockEnd_3 (by decide) ?_
  refine lv_iadd hx hb dX0_blockEnd_4 ?_
  refine lv_aload_n hx hb dX0_blockEnd_5 rfl (lv_at hl 0 rfl) ?_
  refine G_get (v := .int (g.2 (20 + ix))) hC hE (fun _ h => List.mem_cons_of_mem _ (List.mem_append_right _ h)) (f_copy hix) rfl 3 (by decide) (hts (.fieldLink RX0 33 "SeedBattle$Copy" "size" "I") (List.mem_of_getElem? (i := 1) rfl)) rfl dX0_blockEnd_6 ?_
  refine va_mmin hx hb (hml.trans hl.1.symm) hown (hts _ (List.mem_of_getElem? (i := 2) rfl)) (hts _ (List.mem_of_getElem? (i := 3) rfl)) (hts _ (List.mem_of_getElem? (i := 4) rfl)) (hts _ (List.mem_of_getElem? (i := 5) rfl)) (Nat.le_of_ble_eq_true rfl) (Nat.le_of_ble_eq_true rfl) (Nat.zero_le _) (Nat.zero_le _) dX0_blockEnd_9 ?_
  exact G_iret hC hr hk hE hv dX0_blockEnd_12
def J_X0_breakOne_29 (ix : Nat) (x1 : Int32) (post : St → Prop) (K29 : (Int32 × Int32 × St) → Prop) (v1 : Int32) (v2 : Int32) (g : St) : Prop := V_X0_blockEnd ix v1 g (fun r4 g3 => ((r4 ≤ v2 → post g3) ∧ (¬ r4 ≤ v2 → vp_in v2 60 ∧ (K29 (v1, (v2 + 1), (sA g3 (37 + 4 * ix) (upd (g3.1 (37 + 4 * ix)) (Int32.toNatClampNeg v2) 0)))))))
def V_X0_breakOne (ix : Nat) (x1 : Int32) (g : St) (post : St → Prop) : Prop := ((x1 < 0 → post g) ∧ (¬ x1 < 0 → V_X0_blockCount ix g (fun r2 g1 => ((x1 < r2 → lpP (fun K29 (z : Int32 × Int32 × St) => J_X0_breakOne_29 ix x1 post K29 z.1 z.2.1 z.2.2) (x1, (4 * x1), (sS g1 (24 + ix) ((g1.2 (24 + ix)) ||| (1 <<< (x1 &&& 31)))))) ∧ (¬ x1 < r2 → post g1)))))
abbrev rm_X0_breakOne : Room := { frames := 2, cells := 0, slots := 0, locals := 42 }
set_option maxHeartbeats 4000000 in
set_option maxRecDepth 100000 in
theorem c_X0_breakOne (l : Launch) (D : va_G) (cs az a : Nat → Nat) {ix : Nat} (hix : ix < 4) (x1 : Int32) (g : St) (post : St → Prop) (hv : V_X0_breakOne ix x1 g post) : uMv l yX0_breakOne wsX0_breakOne rm_X0_breakOne D cs az (gW cs a) [.ref (a (36 + 4 * ix)), .int x1] g post := by
  refine u_ofV (cc := cX0_breakOne) (maxL := 3) (by decide) rfl (Nat.le_of_ble_eq_true rfl) ?_
  intro p e s m args below meth c F ls hC hr hk hl hE
  have hx := hC.1.1; have hb := hC.1.2.1; have hml := hC.1.2.2.1; have hts := hC.1.2.2.2.2
  have hown : s.vm.findClass RX0 = some m.cls := hC.1.2.2.2.1
  have hl : lv_has ls 3 [(0, .ref (a (36 + 4 * ix))), (1, .int x1)] := hl
  unfold V_X0_breakOne at hv
  have j_29 : ∀ (v1 : Int32) (v2 : Int32) (g : St), lpP (fun K29 (z : Int32 × Int32 × St) => J_X0_breakOne_29 ix x1 post K29 z.1 z.2.1 z.2.2) (v1, v2, g) → ∀ (H : Heap) (locs : List Loc) (ls : Array Slot), uE D 52 gA (gO cs a) cs a F s g H locs → lv_has ls 3 [(0, .ref (a (36 + 4 * ix))), (1, .int v1), (2, .int v2)] → W p l e rm_X0_breakOne s m args below meth c H locs 0 0 (MQ below (va_Qv post (uB D (uW 52 gA (gO cs a) cs a)) F) args s 0 0 F) (F0 m 29 ls []) := by
    intro  v1 v2 g  hv
    obtain ⟨nn, hv⟩ := hv
    induction nn generalizing v1 v2 g with
    | zero => exact False.elim hv
    | succ nn hK29 =>
      intro H locs ls hE hl
      have hv : J_X0_breakOne_29 ix x1 post (itP _ nn) v1 v2 g := hv
      unfold J_X0_breakOne_29 at hv
      refine lv_iload_n hx hb dX0_breakOne_29 rfl (lv_at hl 2 rfl) ?_
      refine lv_aload_n hx hb dX0_breakOne_30 rfl (lv_at hl 0 rfl) ?_
      refine lv_iload_n hx hb dX0_breakOne_31 rfl (lv_at hl 1 rfl) ?_
      refine G_callVi hC (c_X0_blockEnd l D cs az a (ix := ix) hix v1 g _ hv) (cwV 1 hts gX0_breakOne_X0_blockEnd rfl rfl rfl (by decide +kernel) ⟨Nat.le_of_ble_eq_true rfl, Nat.le_of_ble_eq_true rfl⟩) (f_copy hix) rfl rfl hl rfl (Nat.le_of_ble_eq_true rfl) dX0_breakOne_32 hE (fun r4 g3 H locs hv hE => ?_)
      refine lv_icmp_ge (tgt := 51) hx hb dX0_breakOne_35 (by decide) (fun c => ?_) (fun c => ?_)
      · have hv := hv.1 c
        exact G_vret hC hr hk hE hv dX0_breakOne_51
      · have hv := hv.2 c
        refine lv_aload_n hx hb dX0_breakOne_38 rfl (lv_at hl 0 rfl) ?_
        refine G_get (v := .ref (a (37 + 4 * ix))) hC hE (fun _ h => List.mem_cons_of_mem _ (List.mem_append_left _ (List.mem_append_right _ h))) (f_copy hix) rfl 0 (by decide) (hts (.fieldLink RX0 9 "SeedBattle$Copy" "numbers" "[I") (List.mem_of_getElem? (i := 2) rfl)) rfl dX0_breakOne_39 ?_
        refine lv_iload_n hx hb dX0_breakOne_42 rfl (lv_at hl 2 rfl) ?_
        refine lv_iconst (v := 0) hx hb dX0_breakOne_43 (by decide) ?_
        refine G_iast hC hE (f_cnums hix) hv.1 dX0_breakOne_44 (fun H locs hE => ?_)
        have hv := hv.2
        refine lv_iinc (v := (v2 + 1)) (lv' := [(2, .int (v2 + 1)), (0, .ref (a (36 + 4 * ix))), (1, .int v1)]) hx hb dX0_breakOne_45 hl (k := 2) rfl rfl (by decide) rfl (fun ls hl => ?_)
        refine lv_goto (tgt := 29) hx hb dX0_breakOne_48 (by decide) ?_
        exact hK29 _ _ _  hv _ _ _ hE (lv_sub hl [1, 2, 0] rfl)
  refine lv_iload_n hx hb dX0_breakOne_0 rfl (lv_at hl 1 rfl) ?_
  refine lv_if_lt (tgt := 12) hx hb dX0_breakOne_1 (by decide) (fun c => ?_) (fun c => ?_)
  · have hv := hv.1 c
    exact G_vret hC hr hk hE hv dX0_breakOne_12
  · have hv := hv.2 c
    refine lv_iload_n hx hb dX0_breakOne_4 rfl (lv_at hl 1 rfl) ?_
    refine lv_aload_n hx hb dX0_breakOne_5 rfl (lv_at hl 0 rfl) ?_
    refine G_callVi hC (c_X0_blockCount l D cs az a (ix := ix) hix  g _ hv) (cwV 0 hts gX0_breakOne_X0_blockCount rfl rfl rfl (by decide +kernel) ⟨Nat.le_of_ble_eq_true rfl, Nat.le_of_ble_eq_true rfl⟩) (f_copy hix) rfl rfl hl rfl (Nat.le_of_ble_eq_true rfl) dX0_breakOne_6 hE (fun r2 g1 H locs hv hE => ?_)
    refine lv_icmp_lt (tgt := 13) hx hb dX0_breakOne_9 (by decide) (fun c => ?_) (fun c => ?_)
    · have hv := hv.1 c
      refine lv_aload_n hx hb dX0_breakOne_13 rfl (lv_at hl 0 rfl) ?_
      refine lv_dup hx hb dX0_breakOne_14 rfl ?_
      refine G_get (v := .int (g1.2 (24 + ix))) hC hE (fun _ h => List.mem_cons_of_mem _ (List.mem_append_left _ (List.mem_append_right _ h))) (f_copy hix) rfl 4 (by decide) (hts (.fieldLink RX0 40 "SeedBattle$Copy" "brokenBits" "I") (List.mem_of_getElem? (i := 1) rfl)) rfl dX0_breakOne_15 ?_
      refine lv_iconst (v := 1) hx hb dX0_breakOne_18 (by decide) ?_
      refine lv_iload_n hx hb dX0_breakOne_19 rfl (lv_at hl 1 rfl) ?_
      refine lv_ishl hx hb dX0_breakOne_20 ?_
      refine lv_ior hx hb dX0_breakOne_21 ?_
      refine G_put (v := ((g1.2 (24 + ix)) ||| (1 <<< (x1 &&& 31)))) (ty := .int) hC hE (fun _ h => List.mem_cons_of_mem _ (List.mem_append_left _ (List.mem_append_right _ h))) tyX0 tyX0_ok nmX0 (f_copy hix) rfl 4 (24 + ix) (by decide) (hts (.fieldLink RX0 40 "SeedBattle$Copy" "brokenBits" "I") (List.mem_of_getElem? (i := 1) rfl)) rfl (by decide +kernel) rfl rfl (Nat.le_of_ble_eq_true rfl) (p_copy_brokenBits_e (p := ix)) (p_copy_brokenBits_o (p := ix) hix) dX0_breakOne_22 (fun H locs hE => ?_)
      refine lv_iconst (v := 4) hx hb dX0_breakOne_25 (by decide) ?_
      refine lv_iload_n hx hb dX0_breakOne_26 rfl (lv_at hl 1 rfl) ?_
      refine lv_imul hx hb dX0_breakOne_27 ?_
      refine lv_istore_n (lv' := [(2, .int (4 * x1)), (0, .ref (a (36 + 4 * ix))), (1, .int x1)]) hx hb dX0_breakOne_28 rfl hl (by decide) rfl (fun ls hl => ?_)
      exact j_29  _ _ _  hv _ _ _ hE (lv_sub hl [1, 2, 0] rfl)
    · have hv := hv.2 c
      exact G_vret hC hr hk hE hv dX0_breakOne_12
def V_X0_endTreaty (ix : Nat) (x1 : Int32) (g : St) (post : St → Prop) : Prop := V_X0_isAlly ix x1 g (fun r2 g1 => ((r2 = 0 → post g1) ∧ (¬ r2 = 0 → post (sS g1 (32 + ix) 1))))
abbrev rm_X0_endTreaty : Room := { frames := 1, cells := 0, slots := 0, locals := 21 }
set_option maxHeartbeats 4000000 in
set_option maxRecDepth 100000 in
theorem c_X0_endTreaty (l : Launch) (D : va_G) (cs az a : Nat → Nat) {ix : Nat} (hix : ix < 4) (x1 : Int32) (g : St) (post : St → Prop) (hv : V_X0_endTreaty ix x1 g post) : uMv l yX0_endTreaty wsX0_endTreaty rm_X0_endTreaty D cs az (gW cs a) [.ref (a (36 + 4 * ix)), .int x1] g post := by
  refine u_ofV (cc := cX0_endTreaty) (maxL := 2) (by decide) rfl (Nat.le_of_ble_eq_true rfl) ?_
  intro p e s m args below meth c F ls hC hr hk hl hE
  have hx := hC.1.1; have hb := hC.1.2.1; have hml := hC.1.2.2.1; have hts := hC.1.2.2.2.2
  have hown : s.vm.findClass RX0 = some m.cls := hC.1.2.2.2.1
  have hl : lv_has ls 2 [(0, .ref (a (36 + 4 * ix))), (1, .int x1)] := hl
  unfold V_X0_endTreaty at hv
  refine lv_aload_n hx hb dX0_endTreaty_0 rfl (lv_at hl 0 rfl) ?_
  refine lv_iload_n hx hb dX0_endTreaty_1 rfl (lv_at hl 1 rfl) ?_
  refine G_callVi hC (c_X0_isAlly l D cs az a (ix := ix) hix x1 g _ hv) (cwV 1 hts gX0_endTreaty_X0_isAlly rfl rfl rfl (by decide +kernel) ⟨Nat.le_of_ble_eq_true rfl, Nat.le_of_ble_eq_true rfl⟩) (f_copy hix) rfl rfl hl rfl (Nat.le_of_ble_eq_true rfl) dX0_endTreaty_2 hE (fun r2 g1 H locs hv hE => ?_)
  refine lv_if_eq (tgt := 13) hx hb dX0_endTreaty_5 (by decide) (fun c => ?_) (fun c => ?_)
  · have hv := hv.1 c
    exact G_vret hC hr hk hE hv dX0_endTreaty_13
  · have hv := hv.2 c
    refine lv_aload_n hx hb dX0_endTreaty_8 rfl (lv_at hl 0 rfl) ?_
    refine lv_iconst (v := 1) hx hb dX0_endTreaty_9 (by decide) ?_
    refine G_put (v := 1) (ty := .boolean) hC hE (fun _ h => List.mem_cons_of_mem _ (List.mem_append_right _ h)) tyX0 tyX0_ok nmX0 (f_copy hix) rfl 6 (32 + ix) (by decide) (hts (.fieldLink RX0 46 "SeedBattle$Copy" "allyGone" "Z") (List.mem_of_getElem? (i := 1) rfl)) rfl (by decide +kernel) rfl rfl (Nat.le_of_ble_eq_true rfl) (p_copy_allyGone_e (p := ix)) (p_copy_allyGone_o (p := ix) hix) dX0_endTreaty_10 (fun H locs hE => ?_)
    exact G_vret hC hr hk hE hv dX0_endTreaty_13
def J_X0_canRebuild_43 (ix : Nat) (x1 : Int32) (post : Int32 → St → Prop) (K18 : (Int32 × Int32 × St) → Prop) (v1 : Int32) (v3 : Int32) (g : St) : Prop := K18 (v1, (v3 + 1), g)
def J_X0_canRebuild_18 (ix : Nat) (x1 : Int32) (post : Int32 → St → Prop) (K18 : (Int32 × Int32 × St) → Prop) (v1 : Int32) (v3 : Int32) (g : St) : Prop := ((4 ≤ v3 → post 1 g) ∧ (¬ 4 ≤ v3 → V_X0_isAlly ix v3 g (fun r2 g1 => ((r2 = 0 → J_X0_canRebuild_43 ix x1 post K18 v1 v3 g1) ∧ (¬ r2 = 0 → vp_in v3 4 ∧ (V_X0_isBroken (Int32.toNatClampNeg v3) v1 g1 (fun r5 g4 => ((r5 = 0 → J_X0_canRebuild_43 ix x1 post K18 v1 v3 g4) ∧ (¬ r5 = 0 → post 0 g4)))))))))
def V_X0_canRebuild (ix : Nat) (x1 : Int32) (g : St) (post : Int32 → St → Prop) : Prop := (((g.2 (28 + ix)) = 0 → post 0 g) ∧ (¬ (g.2 (28 + ix)) = 0 → (((g.2 (32 + ix)) = 0 → lpP (fun K18 (z : Int32 × Int32 × St) => J_X0_canRebuild_18 ix x1 post K18 z.1 z.2.1 z.2.2) (x1, 0, g)) ∧ (¬ (g.2 (32 + ix)) = 0 → post 0 g))))
abbrev rm_X0_canRebuild : Room := { frames := 2, cells := 0, slots := 0, locals := 41 }
set_option maxHeartbeats 4000000 in
set_option maxRecDepth 100000 in
theorem c_X0_canRebuild (l : Launch) (D : va_G) (cs az a : Nat → Nat) {ix : Nat} (hix : ix < 4) (x1 : Int32) (g : St) (post : Int32 → St → Prop) (hv : V_X0_canRebuild ix x1 g post) : uMi l yX0_canRebuild wsX0_canRebuild rm_X0_canRebuild D cs az (gW cs a) [.ref (a (36 + 4 * ix)), .int x1, .ref (a 25)] g post := by
  refine u_ofI (cc := cX0_canRebuild) (maxL := 4) (by decide) rfl (Nat.le_of_ble_eq_true rfl) ?_
  intro p e s m args below meth c F ls hC hr hk hl hE
  have hx := hC.1.1; have hb := hC.1.2.1; have hml := hC.1.2.2.1; have hts := hC.1.2.2.2.2
  have hown : s.vm.findClass RX0 = some m.cls := hC.1.2.2.2.1
  have hl : lv_has ls 4 [(0, .ref (a (36 + 4 * ix))), (1, .int x1), (2, .ref (a 25))] := hl
  unfold V_X0_canRebuild at hv
  have j_43 : ∀ (K18 : (Int32 × Int32 × St) → Prop), (∀ (v1 : Int32) (v3 : Int32) (g : St), K18 (v1, v3, g) → ∀ (H : Heap) (locs : List Loc) (ls : Array Slot), uE D 52 gA (gO cs a) cs a F s g H locs → lv_has ls 4 [(0, .ref (a (36 + 4 * ix))), (1, .int v1), (2, .ref (a 25)), (3, .int v3)] → W p l e rm_X0_canRebuild s m args below meth c H locs 0 0 (MQ below (va_Qi post (uB D (uW 52 gA (gO cs a) cs a)) F) args s 0 0 F) (F0 m 18 ls [])) → ∀ (v1 : Int32) (v3 : Int32) (g : St), J_X0_canRebuild_43 ix x1 post K18 v1 v3 g → ∀ (H : Heap) (locs : List Loc) (ls : Array Slot), uE D 52 gA (gO cs a) cs a F s g H locs → lv_has ls 4 [(0, .ref (a (36 + 4 * ix))), (1, .int v1), (2, .ref (a 25)), (3, .int v3)] → W p l e rm_X0_canRebuild s m args below meth c H locs 0 0 (MQ below (va_Qi post (uB D (uW 52 gA (gO cs a) cs a)) F) args s 0 0 F) (F0 m 43 ls []) := by
    intro K18 hK18 v1 v3 g  hv
    intro H locs ls hE hl
    unfold J_X0_canRebuild_43 at hv
    refine lv_iinc (v := (v3 + 1)) (lv' := [(3, .int (v3 + 1)), (0, .ref (a (36 + 4 * ix))), (1, .int v1), (2, .ref (a 25))]) hx hb dX0_canRebuild_43 hl (k := 3) rfl rfl (by decide) rfl (fun ls hl => ?_)
    refine lv_goto (tgt := 18) hx hb dX0_canRebuild_46 (by decide) ?_
    exact hK18 _ _ _  hv _ _ _ hE (lv_sub hl [1, 2, 3, 0] rfl)
  have j_18 : ∀ (v1 : Int32) (v3 : Int32) (g : St), lpP (fun K18 (z : Int32 × Int32 × St) => J_X0_canRebuild_18 ix x1 post K18 z.1 z.2.1 z.2.2) (v1, v3, g) → ∀ (H : Heap) (locs : List Loc) (ls : Array Slot), uE D 52 gA (gO cs a) cs a F s g H locs → lv_has ls 4 [(0, .ref (a (36 + 4 * ix))), (1, .int v1), (2, .ref (a 25)), (3, .int v3)] → W p l e rm_X0_canRebuild s m args below meth c H locs 0 0 (MQ below (va_Qi post (uB D (uW 52 gA (gO cs a) cs a)) F) args s 0 0 F) (F0 m 18 ls []) := by
    intro  v1 v3 g  hv
    obtain ⟨nn, hv⟩ := hv
    induction nn generalizing v1 v3 g with
    | zero => exact False.elim hv
    | succ nn hK18 =>
      intro H locs ls hE hl
      have hv : J_X0_canRebuild_18 ix x1 post (itP _ nn) v1 v3 g := hv
      unfold J_X0_canRebuild_18 at hv
      refine lv_iload_n hx hb dX0_canRebuild_18 rfl (lv_at hl 3 rfl) ?_
      refine lv_iconst (v := 4) hx hb dX0_canRebuild_19 (by decide) ?_
      refine lv_icmp_ge (tgt := 49) hx hb dX0_canRebuild_20 (by decide) (fun c => ?_) (fun c => ?_)
      · have hv := hv.1 c
        refine lv_iconst (v := 1) hx hb dX0_canRebuild_49 (by decide) ?_
        exact G_zret hC hr hk hE rfl hv dX0_canRebuild_50
      · have hv := hv.2 c
        refine lv_aload_n hx hb dX0_canRebuild_23 rfl (lv_at hl 0 rfl) ?_
        refine lv_iload_n hx hb dX0_canRebuild_24 rfl (lv_at hl 3 rfl) ?_
        refine G_callVi hC (c_X0_isAlly l D cs az a (ix := ix) hix v3 g _ hv) (cwV 1 hts gX0_canRebuild_X0_isAlly rfl rfl rfl (by decide +kernel) ⟨Nat.le_of_ble_eq_true rfl, Nat.le_of_ble_eq_true rfl⟩) (f_copy hix) rfl rfl hl rfl (Nat.le_of_ble_eq_true rfl) dX0_canRebuild_25 hE (fun r2 g1 H locs hv hE => ?_)
        refine lv_if_eq (tgt := 43) hx hb dX0_canRebuild_28 (by decide) (fun c => ?_) (fun c => ?_)
        · have hv := hv.1 c
          exact j_43 _ hK18 _ _ _  hv _ _ _ hE (lv_sub hl [0, 1, 2, 3] rfl)
        · have hv := hv.2 c
          refine lv_aload_n hx hb dX0_canRebuild_31 rfl (lv_at hl 2 rfl) ?_
          refine lv_iload_n hx hb dX0_canRebuild_32 rfl (lv_at hl 3 rfl) ?_
          have hq3 := vp_lt hv.1
          refine G_aald hC hE f_cpys (t := 4) rfl hv.1 dX0_canRebuild_33 ?_
          have hv := hv.2
          refine lv_iload_n hx hb dX0_canRebuild_34 rfl (lv_at hl 1 rfl) ?_
          refine G_callVi hC (c_X0_isBroken l D cs az a (ix := (Int32.toNatClampNeg v3)) hq3 v1 g1 _ hv) (cwV 1 hts gX0_canRebuild_X0_isBroken rfl rfl rfl (by decide +kernel) ⟨Nat.le_of_ble_eq_true rfl, Nat.le_of_ble_eq_true rfl⟩) (f_copy hq3) rfl rfl hl rfl (Nat.le_of_ble_eq_true rfl) dX0_canRebuild_35 hE (fun r5 g4 H locs hv hE => ?_)
          refine lv_if_eq (tgt := 43) hx hb dX0_canRebuild_38 (by decide) (fun c => ?_) (fun c => ?_)
          · have hv := hv.1 c
            exact j_43 _ hK18 _ _ _  hv _ _ _ hE (lv_sub hl [0, 1, 2, 3] rfl)
          · have hv := hv.2 c
            refine lv_iconst (v := 0) hx hb dX0_canRebuild_41 (by decide) ?_
            exact G_zret hC hr hk hE rfl hv dX0_canRebuild_42
  refine lv_aload_n hx hb dX0_canRebuild_0 rfl (lv_at hl 0 rfl) ?_
  refine G_get (v := .int (g.2 (28 + ix))) hC hE (fun _ h => List.mem_cons_of_mem _ (List.mem_append_right _ h)) (f_copy hix) rfl 5 (by decide) (hts (.fieldLink RX0 43 "SeedBattle$Copy" "allyBits" "I") (List.mem_of_getElem? (i := 1) rfl)) rfl dX0_canRebuild_1 ?_
  refine lv_if_eq (tgt := 14) hx hb dX0_canRebuild_4 (by decide) (fun c => ?_) (fun c => ?_)
  · have hv := hv.1 c
    refine lv_iconst (v := 0) hx hb dX0_canRebuild_14 (by decide) ?_
    exact G_zret hC hr hk hE rfl hv dX0_canRebuild_15
  · have hv := hv.2 c
    refine lv_aload_n hx hb dX0_canRebuild_7 rfl (lv_at hl 0 rfl) ?_
    refine G_get (v := .int (g.2 (32 + ix))) hC hE (fun _ h => List.mem_cons_of_mem _ (List.mem_append_right _ h)) (f_copy hix) rfl 6 (by decide) (hts (.fieldLink RX0 46 "SeedBattle$Copy" "allyGone" "Z") (List.mem_of_getElem? (i := 2) rfl)) rfl dX0_canRebuild_8 ?_
    refine lv_if_eq (tgt := 16) hx hb dX0_canRebuild_11 (by decide) (fun c => ?_) (fun c => ?_)
    · have hv := hv.1 c
      refine lv_iconst (v := 0) hx hb dX0_canRebuild_16 (by decide) ?_
      refine lv_istore_n (lv' := [(3, .int 0), (0, .ref (a (36 + 4 * ix))), (1, .int x1), (2, .ref (a 25))]) hx hb dX0_canRebuild_17 rfl hl (by decide) rfl (fun ls hl => ?_)
      exact j_18  _ _ _  hv _ _ _ hE (lv_sub hl [1, 2, 3, 0] rfl)
    · have hv := hv.2 c
      refine lv_iconst (v := 0) hx hb dX0_canRebuild_14 (by decide) ?_
      exact G_zret hC hr hk hE rfl hv dX0_canRebuild_15
def J_X0_rebuild_17 (ix : Nat) (x1 : Int32) (post : St → Prop) (K17 : (Int32 × Int32 × St) → Prop) (v1 : Int32) (v3 : Int32) (g : St) : Prop := V_X0_blockEnd ix v1 g (fun r4 g3 => ((r4 ≤ v3 → post (sS g3 (24 + ix) ((g3.2 (24 + ix)) &&& ((1 <<< (v1 &&& 31)) ^^^ (-1))))) ∧ (¬ r4 ≤ v3 → vp_in v3 60 ∧ (V_X0_alliesAt ix v3 g3 (fun r6 g5 => vp_in v3 60 ∧ (K17 (v1, (v3 + 1), (sA g5 (37 + 4 * ix) (upd (g5.1 (37 + 4 * ix)) (Int32.toNatClampNeg v3) ((g3.1 (38 + 4 * ix) (Int32.toNatClampNeg v3)) ^^^ r6))))))))))
def V_X0_rebuild (ix : Nat) (x1 : Int32) (g : St) (post : St → Prop) : Prop := ((x1 < 0 → post g) ∧ (¬ x1 < 0 → V_X0_blockCount ix g (fun r2 g1 => ((x1 < r2 → lpP (fun K17 (z : Int32 × Int32 × St) => J_X0_rebuild_17 ix x1 post K17 z.1 z.2.1 z.2.2) (x1, (4 * x1), g1)) ∧ (¬ x1 < r2 → post g1)))))
abbrev rm_X0_rebuild : Room := { frames := 2, cells := 0, slots := 0, locals := 45 }
set_option maxHeartbeats 4000000 in
set_option maxRecDepth 100000 in
theorem c_X0_rebuild (l : Launch) (D : va_G) (cs az a : Nat → Nat) {ix : Nat} (hix : ix < 4) (x1 : Int32) (g : St) (post : St → Prop) (hv : V_X0_rebuild ix x1 g post) : uMv l yX0_rebuild wsX0_rebuild rm_X0_rebuild D cs az (gW cs a) [.ref (a (36 + 4 * ix)), .int x1, .ref (a 25)] g post := by
  refine u_ofV (cc := cX0_rebuild) (maxL := 4) (by decide) rfl (Nat.le_of_ble_eq_true rfl) ?_
  intro p e s m args below meth c F ls hC hr hk hl hE
  have hx := hC.1.1; have hb := hC.1.2.1; have hml := hC.1.2.2.1; have hts := hC.1.2.2.2.2
  have hown : s.vm.findClass RX0 = some m.cls := hC.1.2.2.2.1
  have hl : lv_has ls 4 [(0, .ref (a (36 + 4 * ix))), (1, .int x1), (2, .ref (a 25))] := hl
  unfold V_X0_rebuild at hv
  have j_17 : ∀ (v1 : Int32) (v3 : Int32) (g : St), lpP (fun K17 (z : Int32 × Int32 × St) => J_X0_rebuild_17 ix x1 post K17 z.1 z.2.1 z.2.2) (v1, v3, g) → ∀ (H : Heap) (locs : List Loc) (ls : Array Slot), uE D 52 gA (gO cs a) cs a F s g H locs → lv_has ls 4 [(0, .ref (a (36 + 4 * ix))), (1, .int v1), (2, .ref (a 25)), (3, .int v3)] → W p l e rm_X0_rebuild s m args below meth c H locs 0 0 (MQ below (va_Qv post (uB D (uW 52 gA (gO cs a) cs a)) F) args s 0 0 F) (F0 m 17 ls []) := by
    intro  v1 v3 g  hv
    obtain ⟨nn, hv⟩ := hv
    induction nn generalizing v1 v3 g with
    | zero => exact False.elim hv
    | succ nn hK17 =>
      intro H locs ls hE hl
      have hv : J_X0_rebuild_17 ix x1 post (itP _ nn) v1 v3 g := hv
      unfold J_X0_rebuild_17 at hv
      refine lv_iload_n hx hb dX0_rebuild_17 rfl (lv_at hl 3 rfl) ?_
      refine lv_aload_n hx hb dX0_rebuild_18 rfl (lv_at hl 0 rfl) ?_
      refine lv_iload_n hx hb dX0_rebuild_19 rfl (lv_at hl 1 rfl) ?_
      refine G_callVi hC (c_X0_blockEnd l D cs az a (ix := ix) hix v1 g _ hv) (cwV 1 hts gX0_rebuild_X0_blockEnd rfl rfl rfl (by decide +kernel) ⟨Nat.le_of_ble_eq_true rfl, Nat.le_of_ble_eq_true rfl⟩) (f_copy hix) rfl rfl hl rfl (Nat.le_of_ble_eq_true rfl) dX0_rebuild_20 hE (fun r4 g3 H locs hv hE => ?_)
      refine lv_icmp_ge (tgt := 51) hx hb dX0_rebuild_23 (by decide) (fun c => ?_) (fun c => ?_)
      · have hv := hv.1 c
        refine lv_aload_n hx hb dX0_rebuild_51 rfl (lv_at hl 0 rfl) ?_
        refine lv_dup hx hb dX0_rebuild_52 rfl ?_
        refine G_get (v := .int (g3.2 (24 + ix))) hC hE (fun _ h => List.mem_cons_of_mem _ (List.mem_append_left _ (List.mem_append_right _ h))) (f_copy hix) rfl 4 (by decide) (hts (.fieldLink RX0 40 "SeedBattle$Copy" "brokenBits" "I") (List.mem_of_getElem? (i := 3) rfl)) rfl dX0_rebuild_53 ?_
        refine lv_iconst (v := 1) hx hb dX0_rebuild_56 (by decide) ?_
        refine lv_iload_n hx hb dX0_rebuild_57 rfl (lv_at hl 1 rfl) ?_
        refine lv_ishl hx hb dX0_rebuild_58 ?_
        refine lv_iconst (v := (-1)) hx hb dX0_rebuild_59 (by decide) ?_
        refine lv_ixor hx hb dX0_rebuild_60 ?_
        refine lv_iand hx hb dX0_rebuild_61 ?_
        refine G_put (v := ((g3.2 (24 + ix)) &&& ((1 <<< (v1 &&& 31)) ^^^ (-1)))) (ty := .int) hC hE (fun _ h => List.mem_cons_of_mem _ (List.mem_append_left _ (List.mem_append_right _ h))) tyX0 tyX0_ok nmX0 (f_copy hix) rfl 4 (24 + ix) (by decide) (hts (.fieldLink RX0 40 "SeedBattle$Copy" "brokenBits" "I") (List.mem_of_getElem? (i := 3) rfl)) rfl (by decide +kernel) rfl rfl (Nat.le_of_ble_eq_true rfl) (p_copy_brokenBits_e (p := ix)) (p_copy_brokenBits_o (p := ix) hix) dX0_rebuild_62 (fun H locs hE => ?_)
        exact G_vret hC hr hk hE hv dX0_rebuild_65
      · have hv := hv.2 c
        refine lv_aload_n hx hb dX0_rebuild_26 rfl (lv_at hl 0 rfl) ?_
        refine G_get (v := .ref (a (37 + 4 * ix))) hC hE (fun _ h => List.mem_cons_of_mem _ (List.mem_append_left _ (List.mem_append_right _ h))) (f_copy hix) rfl 0 (by decide) (hts (.fieldLink RX0 9 "SeedBattle$Copy" "numbers" "[I") (List.mem_of_getElem? (i := 1) rfl)) rfl dX0_rebuild_27 ?_
        refine lv_iload_n hx hb dX0_rebuild_30 rfl (lv_at hl 3 rfl) ?_
        refine lv_aload_n hx hb dX0_rebuild_31 rfl (lv_at hl 0 rfl) ?_
        refine G_get (v := .ref (a (38 + 4 * ix))) hC hE (fun _ h => List.mem_cons_of_mem _ (List.mem_append_left _ (List.mem_append_right _ h))) (f_copy hix) rfl 1 (by decide) (hts (.fieldLink RX0 15 "SeedBattle$Copy" "parity" "[I") (List.mem_of_getElem? (i := 2) rfl)) rfl dX0_rebuild_32 ?_
        refine lv_iload_n hx hb dX0_rebuild_35 rfl (lv_at hl 3 rfl) ?_
        refine G_iald hC hE (f_cpar hix) hv.1 dX0_rebuild_36 ?_
        have hv := hv.2
        refine lv_aload_n hx hb dX0_rebuild_37 rfl (lv_at hl 0 rfl) ?_
        refine lv_iload_n hx hb dX0_rebuild_38 rfl (lv_at hl 3 rfl) ?_
        refine lv_aload_n hx hb dX0_rebuild_39 rfl (lv_at hl 2 rfl) ?_
        refine G_callVi hC (c_X0_alliesAt l D cs az a (ix := ix) hix v3 g3 _ hv) (cwV 2 hts gX0_rebuild_X0_alliesAt rfl rfl rfl (by decide +kernel) ⟨Nat.le_of_ble_eq_true rfl, Nat.le_of_ble_eq_true rfl⟩) (f_copy hix) rfl rfl hl rfl (Nat.le_of_ble_eq_true rfl) dX0_rebuild_40 hE (fun r6 g5 H locs hv hE => ?_)
        refine lv_ixor hx hb dX0_rebuild_43 ?_
        refine G_iast hC hE (f_cnums hix) hv.1 dX0_rebuild_44 (fun H locs hE => ?_)
        have hv := hv.2
        refine lv_iinc (v := (v3 + 1)) (lv' := [(3, .int (v3 + 1)), (0, .ref (a (36 + 4 * ix))), (1, .int v1), (2, .ref (a 25))]) hx hb dX0_rebuild_45 hl (k := 3) rfl rfl (by decide) rfl (fun ls hl => ?_)
        refine lv_goto (tgt := 17) hx hb dX0_rebuild_48 (by decide) ?_
        exact hK17 _ _ _  hv _ _ _ hE (lv_sub hl [1, 2, 3, 0] rfl)
  refine lv_iload_n hx hb dX0_rebuild_0 rfl (lv_at hl 1 rfl) ?_
  refine lv_if_lt (tgt := 12) hx hb dX0_rebuild_1 (by decide) (fun c => ?_) (fun c => ?_)
  · have hv := hv.1 c
    exact G_vret hC hr hk hE hv dX0_rebuild_12
  · have hv := hv.2 c
    refine lv_iload_n hx hb dX0_rebuild_4 rfl (lv_at hl 1 rfl) ?_
    refine lv_aload_n hx hb dX0_rebuild_5 rfl (lv_at hl 0 rfl) ?_
    refine G_callVi hC (c_X0_blockCount l D cs az a (ix := ix) hix  g _ hv) (cwV 0 hts gX0_rebuild_X0_blockCount rfl rfl rfl (by decide +kernel) ⟨Nat.le_of_ble_eq_true rfl, Nat.le_of_ble_eq_true rfl⟩) (f_copy hix) rfl rfl hl rfl (Nat.le_of_ble_eq_true rfl) dX0_rebuild_6 hE (fun r2 g1 H locs hv hE => ?_)
    refine lv_icmp_lt (tgt := 13) hx hb dX0_rebuild_9 (by decide) (fun c => ?_) (fun c => ?_)
    · have hv := hv.1 c
      refine lv_iconst (v := 4) hx hb dX0_rebuild_13 (by decide) ?_
      refine lv_iload_n hx hb dX0_rebuild_14 rfl (lv_at hl 1 rfl) ?_
      refine lv_imul hx hb dX0_rebuild_15 ?_
      refine lv_istore_n (lv' := [(3, .int (4 * x1)), (0, .ref (a (36 + 4 * ix))), (1, .int x1), (2, .ref (a 25))]) hx hb dX0_rebuild_16 rfl hl (by decide) rfl (fun ls hl => ?_)
      exact j_17  _ _ _  hv _ _ _ hE (lv_sub hl [1, 2, 3, 0] rfl)
    · have hv := hv.2 c
      exact G_vret hC hr hk hE hv dX0_rebuild_12
def J_X0_wasTaken_2 (ix : Nat) (x1 : Int32) (post : Int32 → St → Prop) (K2 : (Int32 × Int32 × St) → Prop) (v1 : Int32) (v2 : Int32) (g : St) : Prop := (((g.2 (20 + ix)) ≤ v2 → post 0 g) ∧ (¬ (g.2 (20 + ix)) ≤ v2 → vp_in v2 60 ∧ (((¬ (g.1 (39 + 4 * ix) (Int32.toNatClampNeg v2)) = v1 → K2 (v1, (v2 + 1), g)) ∧ ((g.1 (39 + 4 * ix) (Int32.toNatClampNeg v2)) = v1 → post 1 g)))))
def V_X0_wasTaken (ix : Nat) (x1 : Int32) (g : St) (post : Int32 → St → Prop) : Prop := lpP (fun K2 (z : Int32 × Int32 × St) => J_X0_wasTaken_2 ix x1 post K2 z.1 z.2.1 z.2.2) (x1, 0, g)
abbrev rm_X0_wasTaken : Room := { frames := 0, cells := 0, slots := 0, locals := 0 }
set_option maxHeartbeats 4000000 in
set_option maxRecDepth 100000 in
theorem c_X0_wasTaken (l : Launch) (D : va_G) (cs az a : Nat → Nat) {ix : Nat} (hix : ix < 4) (x1 : Int32) (g : St) (post : Int32 → St → Prop) (hv : V_X0_wasTaken ix x1 g post) : uMi l yX0_wasTaken wsX0_wasTaken rm_X0_wasTaken D cs az (gW cs a) [.ref (a (36 + 4 * ix)), .int x1] g post := by
  refine u_ofI (cc := cX0_wasTaken) (maxL := 3) (by decide) rfl (Nat.le_of_ble_eq_true rfl) ?_
  intro p e s m args below meth c F ls hC hr hk hl hE
  have hx := hC.1.1; have hb := hC.1.2.1; have hml := hC.1.2.2.1; have hts := hC.1.2.2.2.2
  have hown : s.vm.findClass RX0 = some m.cls := hC.1.2.2.2.1
  have hl : lv_has ls 3 [(0, .ref (a (36 + 4 * ix))), (1, .int x1)] := hl
  unfold V_X0_wasTaken at hv
  have j_2 : ∀ (v1 : Int32) (v2 : Int32) (g : St), lpP (fun K2 (z : Int32 × Int32 × St) => J_X0_wasTaken_2 ix x1 post K2 z.1 z.2.1 z.2.2) (v1, v2, g) → ∀ (H : Heap) (locs : List Loc) (ls : Array Slot), uE D 52 gA (gO cs a) cs a F s g H locs → lv_has ls 3 [(0, .ref (a (36 + 4 * ix))), (1, .int v1), (2, .int v2)] → W p l e rm_X0_wasTaken s m args below meth c H locs 0 0 (MQ below (va_Qi post (uB D (uW 52 gA (gO cs a) cs a)) F) args s 0 0 F) (F0 m 2 ls []) := by
    intro  v1 v2 g  hv
    obtain ⟨nn, hv⟩ := hv
    induction nn generalizing v1 v2 g with
    | zero => exact False.elim hv
    | succ nn hK2 =>
      intro H locs ls hE hl
      have hv : J_X0_wasTaken_2 ix x1 post (itP _ nn) v1 v2 g := hv
      unfold J_X0_wasTaken_2 at hv
      refine lv_iload_n hx hb dX0_wasTaken_2 rfl (lv_at hl 2 rfl) ?_
      refine lv_aload_n hx hb dX0_wasTaken_3 rfl (lv_at hl 0 rfl) ?_
      refine G_get (v := .int (g.2 (20 + ix))) hC hE (fun _ h => List.mem_cons_of_mem _ (List.mem_append_left _ (List.mem_append_right _ h))) (f_copy hix) rfl 3 (by decide) (hts (.fieldLink RX0 33 "SeedBattle$Copy" "size" "I") (List.mem_of_getElem? (i := 1) rfl)) rfl dX0_wasTaken_4 ?_
      refine lv_icmp_ge (tgt := 28) hx hb dX0_wasTaken_7 (by decide) (fun c => ?_) (fun c => ?_)
      · have hv := hv.1 c
        refine lv_iconst (v := 0) hx hb dX0_wasTaken_28 (by decide) ?_
        exact G_zret hC hr hk hE rfl hv dX0_wasTaken_29
      · have hv := hv.2 c
        refine lv_aload_n hx hb dX0_wasTaken_10 rfl (lv_at hl 0 rfl) ?_
        refine G_get (v := .ref (a (39 + 4 * ix))) hC hE (fun _ h => List.mem_cons_of_mem _ (List.mem_append_left _ (List.mem_append_right _ h))) (f_copy hix) rfl 2 (by decide) (hts (.fieldLink RX0 18 "SeedBattle$Copy" "original" "[I") (List.mem_of_getElem? (i := 2) rfl)) rfl dX0_wasTaken_11 ?_
        refine lv_iload_n hx hb dX0_wasTaken_14 rfl (lv_at hl 2 rfl) ?_
        refine G_iald hC hE (f_corig hix) hv.1 dX0_wasTaken_15 ?_
        have hv := hv.2
        refine lv_iload_n hx hb dX0_wasTaken_16 rfl (lv_at hl 1 rfl) ?_
        refine lv_icmp_ne (tgt := 22) hx hb dX0_wasTaken_17 (by decide) (fun c => ?_) (fun c => ?_)
        · have hv := hv.1 c
          refine lv_iinc (v := (v2 + 1)) (lv' := [(2, .int (v2 + 1)), (0, .ref (a (36 + 4 * ix))), (1, .int v1)]) hx hb dX0_wasTaken_22 hl (k := 2) rfl rfl (by decide) rfl (fun ls hl => ?_)
          refine lv_goto (tgt := 2) hx hb dX0_wasTaken_25 (by decide) ?_
          exact hK2 _ _ _  hv _ _ _ hE (lv_sub hl [1, 2, 0] rfl)
        · have hv := hv.2 c
          refine lv_iconst (v := 1) hx hb dX0_wasTaken_20 (by decide) ?_
          exact G_zret hC hr hk hE rfl hv dX0_wasTaken_21
  refine lv_iconst (v := 0) hx hb dX0_wasTaken_0 (by decide) ?_
  refine lv_istore_n (lv' := [(2, .int 0), (0, .ref (a (36 + 4 * ix))), (1, .int x1)]) hx hb dX0_wasTaken_1 rfl hl (by decide) rfl (fun ls hl => ?_)
  exact j_2  _ _ _  hv _ _ _ hE (lv_sub hl [1, 2, 0] rfl)
def J_X0_isAsTaken_35 (ix : Nat) (post : Int32 → St → Prop) (K2 : (Int32 × St) → Prop) (v1 : Int32) (g : St) : Prop := K2 ((v1 + 1), g)
def J_X0_isAsTaken_2 (ix : Nat) (post : Int32 → St → Prop) (K2 : (Int32 × St) → Prop) (v1 : Int32) (g : St) : Prop := (((g.2 (20 + ix)) ≤ v1 → post 1 g) ∧ (¬ (g.2 (20 + ix)) ≤ v1 → V_X0_isBroken ix (v1 / 4) g (fun r2 g1 => ((¬ r2 = 0 → J_X0_isAsTaken_35 ix post K2 v1 g1) ∧ (r2 = 0 → vp_in v1 60 ∧ (V_X0_wasTaken ix (g1.1 (37 + 4 * ix) (Int32.toNatClampNeg v1)) g1 (fun r4 g3 => ((¬ r4 = 0 → J_X0_isAsTaken_35 ix post K2 v1 g3) ∧ (r4 = 0 → post 0 g3)))))))))
def V_X0_isAsTaken (ix : Nat) (g : St) (post : Int32 → St → Prop) : Prop := lpP (fun K2 (z : Int32 × St) => J_X0_isAsTaken_2 ix post K2 z.1 z.2) (0, g)
abbrev rm_X0_isAsTaken : Room := { frames := 2, cells := 0, slots := 0, locals := 41 }
set_option maxHeartbeats 4000000 in
set_option maxRecDepth 100000 in
theorem c_X0_isAsTaken (l : Launch) (D : va_G) (cs az a : Nat → Nat) {ix : Nat} (hix : ix < 4)  (g : St) (post : Int32 → St → Prop) (hv : V_X0_isAsTaken ix g post) : uMi l yX0_isAsTaken wsX0_isAsTaken rm_X0_isAsTaken D cs az (gW cs a) [.ref (a (36 + 4 * ix))] g post := by
  refine u_ofI (cc := cX0_isAsTaken) (maxL := 2) (by decide) rfl (Nat.le_of_ble_eq_true rfl) ?_
  intro p e s m args below meth c F ls hC hr hk hl hE
  have hx := hC.1.1; have hb := hC.1.2.1; have hml := hC.1.2.2.1; have hts := hC.1.2.2.2.2
  have hown : s.vm.findClass RX0 = some m.cls := hC.1.2.2.2.1
  have hl : lv_has ls 2 [(0, .ref (a (36 + 4 * ix)))] := hl
  unfold V_X0_isAsTaken at hv
  have j_35 : ∀ (K2 : (Int32 × St) → Prop), (∀ (v1 : Int32) (g : St), K2 (v1, g) → ∀ (H : Heap) (locs : List Loc) (ls : Array Slot), uE D 52 gA (gO cs a) cs a F s g H locs → lv_has ls 2 [(0, .ref (a (36 + 4 * ix))), (1, .int v1)] → W p l e rm_X0_isAsTaken s m args below meth c H locs 0 0 (MQ below (va_Qi post (uB D (uW 52 gA (gO cs a) cs a)) F) args s 0 0 F) (F0 m 2 ls [])) → ∀ (v1 : Int32) (g : St), J_X0_isAsTaken_35 ix post K2 v1 g → ∀ (H : Heap) (locs : List Loc) (ls : Array Slot), uE D 52 gA (gO cs a) cs a F s g H locs → lv_has ls 2 [(0, .ref (a (36 + 4 * ix))), (1, .int v1)] → W p l e rm_X0_isAsTaken s m args below meth c H locs 0 0 (MQ below (va_Qi post (uB D (uW 52 gA (gO cs a) cs a)) F) args s 0 0 F) (F0 m 35 ls []) := by
    intro K2 hK2 v1 g  hv
    intro H locs ls hE hl
    unfold J_X0_isAsTaken_35 at hv
    refine lv_iinc (v := (v1 + 1)) (lv' := [(1, .int (v1 + 1)), (0, .ref (a (36 + 4 * ix)))]) hx hb dX0_isAsTaken_35 hl (k := 1) rfl rfl (by decide) rfl (fun ls hl => ?_)
    refine lv_goto (tgt := 2) hx hb dX0_isAsTaken_38 (by decide) ?_
    exact hK2 _ _  hv _ _ _ hE (lv_sub hl [1, 0] rfl)
  have j_2 : ∀ (v1 : Int32) (g : St), lpP (fun K2 (z : Int32 × St) => J_X0_isAsTaken_2 ix post K2 z.1 z.2) (v1, g) → ∀ (H : Heap) (locs : List Loc) (ls : Array Slot), uE D 52 gA (gO cs a) cs a F s g H locs → lv_has ls 2 [(0, .ref (a (36 + 4 * ix))), (1, .int v1)] → W p l e rm_X0_isAsTaken s m args below meth c H locs 0 0 (MQ below (va_Qi post (uB D (uW 52 gA (gO cs a) cs a)) F) args s 0 0 F) (F0 m 2 ls []) := by
    intro  v1 g  hv
    obtain ⟨nn, hv⟩ := hv
    induction nn generalizing v1 g with
    | zero => exact False.elim hv
    | succ nn hK2 =>
      intro H locs ls hE hl
      have hv : J_X0_isAsTaken_2 ix post (itP _ nn) v1 g := hv
      unfold J_X0_isAsTaken_2 at hv
      refine lv_iload_n hx hb dX0_isAsTaken_2 rfl (lv_at hl 1 rfl) ?_
      refine lv_aload_n hx hb dX0_isAsTaken_3 rfl (lv_at hl 0 rfl) ?_
      refine G_get (v := .int (g.2 (20 + ix))) hC hE (fun _ h => List.mem_cons_of_mem _ (List.mem_append_left _ (List.mem_append_right _ h))) (f_copy hix) rfl 3 (by decide) (hts (.fieldLink RX0 33 "SeedBattle$Copy" "size" "I") (List.mem_of_getElem? (i := 1) rfl)) rfl dX0_isAsTaken_4 ?_
      refine lv_icmp_ge (tgt := 41) hx hb dX0_isAsTaken_7 (by decide) (fun c => ?_) (fun c => ?_)
      · have hv := hv.1 c
        refine lv_iconst (v := 1) hx hb dX0_isAsTaken_41 (by decide) ?_
        exact G_zret hC hr hk hE rfl hv dX0_isAsTaken_42
      · have hv := hv.2 c
        refine lv_aload_n hx hb dX0_isAsTaken_10 rfl (lv_at hl 0 rfl) ?_
        refine lv_iload_n hx hb dX0_isAsTaken_11 rfl (lv_at hl 1 rfl) ?_
        refine lv_iconst (v := 4) hx hb dX0_isAsTaken_12 (by decide) ?_
        refine lv_idiv hx hb dX0_isAsTaken_13 (by decide) ?_
        refine G_callVi hC (c_X0_isBroken l D cs az a (ix := ix) hix (v1 / 4) g _ hv) (cwV 1 hts gX0_isAsTaken_X0_isBroken rfl rfl rfl (by decide +kernel) ⟨Nat.le_of_ble_eq_true rfl, Nat.le_of_ble_eq_true rfl⟩) (f_copy hix) rfl rfl hl rfl (Nat.le_of_ble_eq_true rfl) dX0_isAsTaken_14 hE (fun r2 g1 H locs hv hE => ?_)
        refine lv_if_ne (tgt := 35) hx hb dX0_isAsTaken_17 (by decide) (fun c => ?_) (fun c => ?_)
        · have hv := hv.1 c
          exact j_35 _ hK2 _ _  hv _ _ _ hE (lv_sub hl [0, 1] rfl)
        · have hv := hv.2 c
          refine lv_aload_n hx hb dX0_isAsTaken_20 rfl (lv_at hl 0 rfl) ?_
          refine lv_aload_n hx hb dX0_isAsTaken_21 rfl (lv_at hl 0 rfl) ?_
          refine G_get (v := .ref (a (37 + 4 * ix))) hC hE (fun _ h => List.mem_cons_of_mem _ (List.mem_append_left _ (List.mem_append_right _ h))) (f_copy hix) rfl 0 (by decide) (hts (.fieldLink RX0 9 "SeedBattle$Copy" "numbers" "[I") (List.mem_of_getElem? (i := 2) rfl)) rfl dX0_isAsTaken_22 ?_
          refine lv_iload_n hx hb dX0_isAsTaken_25 rfl (lv_at hl 1 rfl) ?_
          refine G_iald hC hE (f_cnums hix) hv.1 dX0_isAsTaken_26 ?_
          have hv := hv.2
          refine G_callVi hC (c_X0_wasTaken l D cs az a (ix := ix) hix (g1.1 (37 + 4 * ix) (Int32.toNatClampNeg v1)) g1 _ hv) (cwV 1 hts gX0_isAsTaken_X0_wasTaken rfl rfl rfl (by decide +kernel) ⟨Nat.le_of_ble_eq_true rfl, Nat.le_of_ble_eq_true rfl⟩) (f_copy hix) rfl rfl hl rfl (Nat.le_of_ble_eq_true rfl) dX0_isAsTaken_27 hE (fun r4 g3 H locs hv hE => ?_)
          refine lv_if_ne (tgt := 35) hx hb dX0_isAsTaken_30 (by decide) (fun c => ?_) (fun c => ?_)
          · have hv := hv.1 c
            exact j_35 _ hK2 _ _  hv _ _ _ hE (lv_sub hl [0, 1] rfl)
          · have hv := hv.2 c
            refine lv_iconst (v := 0) hx hb dX0_isAsTaken_33 (by decide) ?_
            exact G_zret hC hr hk hE rfl hv dX0_isAsTaken_34
  refine lv_iconst (v := 0) hx hb dX0_isAsTaken_0 (by decide) ?_
  refine lv_istore_n (lv' := [(1, .int 0), (0, .ref (a (36 + 4 * ix)))]) hx hb dX0_isAsTaken_1 rfl hl (by decide) rfl (fun ls hl => ?_)
  exact j_2  _ _  hv _ _ _ hE (lv_sub hl [1, 0] rfl)
def J_X0_take_15 (ix : Nat) (x2 : Int32) (post : St → Prop) (K15 : (Int32 × Int32 × St) → Prop) (v2 : Int32) (v3 : Int32) (g : St) : Prop := (((g.2 (20 + ix)) ≤ v3 → post (sS (sS (sS g (24 + ix) 0) (28 + ix) v2) (32 + ix) 0)) ∧ (¬ (g.2 (20 + ix)) ≤ v3 → V_X2_at ix v3 g (fun r2 g1 => vp_in v3 60 ∧ (V_X2_at ix v3 (sA g1 (37 + 4 * ix) (upd (g1.1 (37 + 4 * ix)) (Int32.toNatClampNeg v3) r2)) (fun r4 g3 => vp_in v3 60 ∧ (K15 (v2, (v3 + 1), (sA g3 (39 + 4 * ix) (upd (g3.1 (39 + 4 * ix)) (Int32.toNatClampNeg v3) r4)))))))))
def V_X0_take (ix : Nat) (x2 : Int32) (g : St) (post : St → Prop) : Prop := lpP (fun K15 (z : Int32 × Int32 × St) => J_X0_take_15 ix x2 post K15 z.1 z.2.1 z.2.2) (x2, 0, (sS g (20 + ix) (if 60 < (g.2 (10 + ix)) then 60 else (g.2 (10 + ix)))))
abbrev rm_X0_take : Room := { frames := 1, cells := 0, slots := 0, locals := 21 }
set_option maxHeartbeats 4000000 in
set_option maxRecDepth 100000 in
theorem c_X0_take (l : Launch) (D : va_G) (cs az a : Nat → Nat) {ix : Nat} (hix : ix < 4) (x2 : Int32) (g : St) (post : St → Prop) (hv : V_X0_take ix x2 g post) : uMv l yX0_take wsX0_take rm_X0_take D cs az (gW cs a) [.ref (a (36 + 4 * ix)), .ref (a (28 + 2 * ix)), .int x2] g post := by
  refine u_ofV (cc := cX0_take) (maxL := 4) (by decide) rfl (Nat.le_of_ble_eq_true rfl) ?_
  intro p e s m args below meth c F ls hC hr hk hl hE
  have hx := hC.1.1; have hb := hC.1.2.1; have hml := hC.1.2.2.1; have hts := hC.1.2.2.2.2
  have hown : s.vm.findClass RX0 = some m.cls := hC.1.2.2.2.1
  have hl : lv_has ls 4 [(0, .ref (a (36 + 4 * ix))), (1, .ref (a (28 + 2 * ix))), (2, .int x2)] := hl
  unfold V_X0_take at hv
  have j_15 : ∀ (v2 : Int32) (v3 : Int32) (g : St), lpP (fun K15 (z : Int32 × Int32 × St) => J_X0_take_15 ix x2 post K15 z.1 z.2.1 z.2.2) (v2, v3, g) → ∀ (H : Heap) (locs : List Loc) (ls : Array Slot), uE D 52 gA (gO cs a) cs a F s g H locs → lv_has ls 4 [(0, .ref (a (36 + 4 * ix))), (1, .ref (a (28 + 2 * ix))), (2, .int v2), (3, .int v3)] → W p l e rm_X0_take s m args below meth c H locs 0 0 (MQ below (va_Qv post (uB D (uW 52 gA (gO cs a) cs a)) F) args s 0 0 F) (F0 m 15 ls []) := by
    intro  v2 v3 g  hv
    obtain ⟨nn, hv⟩ := hv
    induction nn generalizing v2 v3 g with
    | zero => exact False.elim hv
    | succ nn hK15 =>
      intro H locs ls hE hl
      have hv : J_X0_take_15 ix x2 post (itP _ nn) v2 v3 g := hv
      unfold J_X0_take_15 at hv
      refine lv_iload_n hx hb dX0_take_15 rfl (lv_at hl 3 rfl) ?_
      refine lv_aload_n hx hb dX0_take_16 rfl (lv_at hl 0 rfl) ?_
      refine G_get (v := .int (g.2 (20 + ix))) hC hE (fun _ h => List.mem_cons_of_mem _ (List.mem_append_left _ (List.mem_append_right _ h))) (f_copy hix) rfl 3 (by decide) (hts (.fieldLink RX0 33 "SeedBattle$Copy" "size" "I") (List.mem_of_getElem? (i := 5) rfl)) rfl dX0_take_17 ?_
      refine lv_icmp_ge (tgt := 51) hx hb dX0_take_20 (by decide) (fun c => ?_) (fun c => ?_)
      · have hv := hv.1 c
        refine lv_aload_n hx hb dX0_take_51 rfl (lv_at hl 0 rfl) ?_
        refine lv_iconst (v := 0) hx hb dX0_take_52 (by decide) ?_
        refine G_put (v := 0) (ty := .int) hC hE (fun _ h => List.mem_cons_of_mem _ (List.mem_append_left _ (List.mem_append_right _ h))) tyX0 tyX0_ok nmX0 (f_copy hix) rfl 4 (24 + ix) (by decide) (hts (.fieldLink RX0 40 "SeedBattle$Copy" "brokenBits" "I") (List.mem_of_getElem? (i := 8) rfl)) rfl (by decide +kernel) rfl rfl (Nat.le_of_ble_eq_true rfl) (p_copy_brokenBits_e (p := ix)) (p_copy_brokenBits_o (p := ix) hix) dX0_take_53 (fun H locs hE => ?_)
        refine lv_aload_n hx hb dX0_take_56 rfl (lv_at hl 0 rfl) ?_
        refine lv_iload_n hx hb dX0_take_57 rfl (lv_at hl 2 rfl) ?_
        refine G_put (v := v2) (ty := .int) hC hE (fun _ h => List.mem_cons_of_mem _ (List.mem_append_left _ (List.mem_append_right _ h))) tyX0 tyX0_ok nmX0 (f_copy hix) rfl 5 (28 + ix) (by decide) (hts (.fieldLink RX0 43 "SeedBattle$Copy" "allyBits" "I") (List.mem_of_getElem? (i := 9) rfl)) rfl (by decide +kernel) rfl rfl (Nat.le_of_ble_eq_true rfl) (p_copy_allyBits_e (p := ix)) (p_copy_allyBits_o (p := ix) hix) dX0_take_58 (fun H locs hE => ?_)
        refine lv_aload_n hx hb dX0_take_61 rfl (lv_at hl 0 rfl) ?_
        refine lv_iconst (v := 0) hx hb dX0_take_62 (by decide) ?_
        refine G_put (v := 0) (ty := .boolean) hC hE (fun _ h => List.mem_cons_of_mem _ (List.mem_append_left _ (List.mem_append_right _ h))) tyX0 tyX0_ok nmX0 (f_copy hix) rfl 6 (32 + ix) (by decide) (hts (.fieldLink RX0 46 "SeedBattle$Copy" "allyGone" "Z") (List.mem_of_getElem? (i := 10) rfl)) rfl (by decide +kernel) rfl rfl (Nat.le_of_ble_eq_true rfl) (p_copy_allyGone_e (p := ix)) (p_copy_allyGone_o (p := ix) hix) dX0_take_63 (fun H locs hE => ?_)
        exact G_vret hC hr hk hE hv dX0_take_66
      · have hv := hv.2 c
        refine lv_aload_n hx hb dX0_take_23 rfl (lv_at hl 0 rfl) ?_
        refine G_get (v := .ref (a (37 + 4 * ix))) hC hE (fun _ h => List.mem_cons_of_mem _ (List.mem_append_left _ (List.mem_append_right _ h))) (f_copy hix) rfl 0 (by decide) (hts (.fieldLink RX0 9 "SeedBattle$Copy" "numbers" "[I") (List.mem_of_getElem? (i := 6) rfl)) rfl dX0_take_24 ?_
        refine lv_iload_n hx hb dX0_take_27 rfl (lv_at hl 3 rfl) ?_
        refine lv_aload_n hx hb dX0_take_28 rfl (lv_at hl 1 rfl) ?_
        refine lv_iload_n hx hb dX0_take_29 rfl (lv_at hl 3 rfl) ?_
        refine G_callVi hC (c_X2_at l D cs az a (ix := ix) hix v3 g _ hv) (cwV 1 hts gX0_take_X2_at rfl rfl rfl (by decide +kernel) ⟨Nat.le_of_ble_eq_true rfl, Nat.le_of_ble_eq_true rfl⟩) (f_index hix) rfl rfl hl rfl (Nat.le_of_ble_eq_true rfl) dX0_take_30 hE (fun r2 g1 H locs hv hE => ?_)
        refine G_iast hC hE (f_cnums hix) hv.1 dX0_take_33 (fun H locs hE => ?_)
        have hv := hv.2
        refine lv_aload_n hx hb dX0_take_34 rfl (lv_at hl 0 rfl) ?_
        refine G_get (v := .ref (a (39 + 4 * ix))) hC hE (fun _ h => List.mem_cons_of_mem _ (List.mem_append_left _ (List.mem_append_right _ h))) (f_copy hix) rfl 2 (by decide) (hts (.fieldLink RX0 18 "SeedBattle$Copy" "original" "[I") (List.mem_of_getElem? (i := 7) rfl)) rfl dX0_take_35 ?_
        refine lv_iload_n hx hb dX0_take_38 rfl (lv_at hl 3 rfl) ?_
        refine lv_aload_n hx hb dX0_take_39 rfl (lv_at hl 1 rfl) ?_
        refine lv_iload_n hx hb dX0_take_40 rfl (lv_at hl 3 rfl) ?_
        refine G_callVi hC (c_X2_at l D cs az a (ix := ix) hix v3 (sA g1 (37 + 4 * ix) (upd (g1.1 (37 + 4 * ix)) (Int32.toNatClampNeg v3) r2)) _ hv) (cwV 1 hts gX0_take_X2_at rfl rfl rfl (by decide +kernel) ⟨Nat.le_of_ble_eq_true rfl, Nat.le_of_ble_eq_true rfl⟩) (f_index hix) rfl rfl hl rfl (Nat.le_of_ble_eq_true rfl) dX0_take_41 hE (fun r4 g3 H locs hv hE => ?_)
        refine G_iast hC hE (f_corig hix) hv.1 dX0_take_44 (fun H locs hE => ?_)
        have hv := hv.2
        refine lv_iinc (v := (v3 + 1)) (lv' := [(3, .int (v3 + 1)), (0, .ref (a (36 + 4 * ix))), (1, .ref (a (28 + 2 * ix))), (2, .int v2)]) hx hb dX0_take_45 hl (k := 3) rfl rfl (by decide) rfl (fun ls hl => ?_)
        refine lv_goto (tgt := 15) hx hb dX0_take_48 (by decide) ?_
        exact hK15 _ _ _  hv _ _ _ hE (lv_sub hl [1, 2, 3, 0] rfl)
  refine lv_aload_n hx hb dX0_take_0 rfl (lv_at hl 0 rfl) ?_
  refine lv_aload_n hx hb dX0_take_1 rfl (lv_at hl 1 rfl) ?_
  refine G_getN (v := .int (g.2 (10 + ix))) hC hE (fun _ h => List.mem_cons_of_mem _ (List.mem_append_left _ (List.mem_append_left _ (List.mem_append_right _ h)))) (f_index hix) rfl 1 (by decide) (List.mem_of_getElem? (i := 7) rfl) rfl dX0_take_2 ?_
  refine lv_bipush (v := 60) hx hb dX0_take_5 (by decide) ?_
  refine va_mmin hx hb (hml.trans hl.1.symm) hown (hts _ (List.mem_of_getElem? (i := 1) rfl)) (hts _ (List.mem_of_getElem? (i := 2) rfl)) (hts _ (List.mem_of_getElem? (i := 3) rfl)) (hts _ (List.mem_of_getElem? (i := 4) rfl)) (Nat.le_of_ble_eq_true rfl) (Nat.le_of_ble_eq_true rfl) (Nat.zero_le _) (Nat.zero_le _) dX0_take_7 ?_
  refine G_put (v := (if 60 < (g.2 (10 + ix)) then 60 else (g.2 (10 + ix)))) (ty := .int) hC hE (fun _ h => List.mem_cons_of_mem _ (List.mem_append_left _ (List.mem_append_right _ h))) tyX0 tyX0_ok nmX0 (f_copy hix) rfl 3 (20 + ix) (by decide) (hts (.fieldLink RX0 33 "SeedBattle$Copy" "size" "I") (List.mem_of_getElem? (i := 5) rfl)) rfl (by decide +kernel) rfl rfl (Nat.le_of_ble_eq_true rfl) (p_copy_size_e (p := ix)) (p_copy_size_o (p := ix) hix) dX0_take_10 (fun H locs hE => ?_)
  refine lv_iconst (v := 0) hx hb dX0_take_13 (by decide) ?_
  refine lv_istore_n (lv' := [(3, .int 0), (0, .ref (a (36 + 4 * ix))), (1, .ref (a (28 + 2 * ix))), (2, .int x2)]) hx hb dX0_take_14 rfl hl (by decide) rfl (fun ls hl => ?_)
  exact j_15  _ _ _  hv _ _ _ hE (lv_sub hl [1, 2, 3, 0] rfl)
def J_X0_writeTo_6 (ix : Nat) (post : St → Prop) (K6 : (Int32 × St) → Prop) (v2 : Int32) (g : St) : Prop := (((g.2 (20 + ix)) ≤ v2 → post g) ∧ (¬ (g.2 (20 + ix)) ≤ v2 → vp_in v2 60 ∧ (V_X6_turnOf (g.1 (37 + 4 * ix) (Int32.toNatClampNeg v2)) (fun r2 => vp_in v2 60 ∧ (V_X6_placeOf (g.1 (37 + 4 * ix) (Int32.toNatClampNeg v2)) (fun r3 => vp_in v2 60 ∧ (V_X6_unitOf (g.1 (37 + 4 * ix) (Int32.toNatClampNeg v2)) (fun r4 => V_X2_add ix r2 r3 r4 g (fun g5 => K6 ((v2 + 1), g5))))))))))
def V_X0_writeTo (ix : Nat) (g : St) (post : St → Prop) : Prop := V_X2_clear ix g (fun g1 => lpP (fun K6 (z : Int32 × St) => J_X0_writeTo_6 ix post K6 z.1 z.2) (0, g1))
abbrev rm_X0_writeTo : Room := { frames := 3, cells := 0, slots := 0, locals := 66 }
set_option maxHeartbeats 4000000 in
set_option maxRecDepth 100000 in
theorem c_X0_writeTo (l : Launch) (D : va_G) (cs az a : Nat → Nat) {ix : Nat} (hix : ix < 4)  (g : St) (post : St → Prop) (hv : V_X0_writeTo ix g post) : uMv l yX0_writeTo wsX0_writeTo rm_X0_writeTo D cs az (gW cs a) [.ref (a (36 + 4 * ix)), .ref (a (28 + 2 * ix))] g post := by
  refine u_ofV (cc := cX0_writeTo) (maxL := 3) (by decide) rfl (Nat.le_of_ble_eq_true rfl) ?_
  intro p e s m args below meth c F ls hC hr hk hl hE
  have hx := hC.1.1; have hb := hC.1.2.1; have hml := hC.1.2.2.1; have hts := hC.1.2.2.2.2
  have hown : s.vm.findClass RX0 = some m.cls := hC.1.2.2.2.1
  have hl : lv_has ls 3 [(0, .ref (a (36 + 4 * ix))), (1, .ref (a (28 + 2 * ix)))] := hl
  unfold V_X0_writeTo at hv
  have j_6 : ∀ (v2 : Int32) (g : St), lpP (fun K6 (z : Int32 × St) => J_X0_writeTo_6 ix post K6 z.1 z.2) (v2, g) → ∀ (H : Heap) (locs : List Loc) (ls : Array Slot), uE D 52 gA (gO cs a) cs a F s g H locs → lv_has ls 3 [(0, .ref (a (36 + 4 * ix))), (1, .ref (a (28 + 2 * ix))), (2, .int v2)] → W p l e rm_X0_writeTo s m args below meth c H locs 0 0 (MQ below (va_Qv post (uB D (uW 52 gA (gO cs a) cs a)) F) args s 0 0 F) (F0 m 6 ls []) := by
    intro  v2 g  hv
    obtain ⟨nn, hv⟩ := hv
    induction nn generalizing v2 g with
    | zero => exact False.elim hv
    | succ nn hK6 =>
      intro H locs ls hE hl
      have hv : J_X0_writeTo_6 ix post (itP _ nn) v2 g := hv
      unfold J_X0_writeTo_6 at hv
      refine lv_iload_n hx hb dX0_writeTo_6 rfl (lv_at hl 2 rfl) ?_
      refine lv_aload_n hx hb dX0_writeTo_7 rfl (lv_at hl 0 rfl) ?_
      refine G_get (v := .int (g.2 (20 + ix))) hC hE (fun _ h => List.mem_cons_of_mem _ (List.mem_append_left _ (List.mem_append_left _ (List.mem_append_right _ h)))) (f_copy hix) rfl 3 (by decide) (hts (.fieldLink RX0 33 "SeedBattle$Copy" "size" "I") (List.mem_of_getElem? (i := 1) rfl)) rfl dX0_writeTo_8 ?_
      refine lv_icmp_ge (tgt := 51) hx hb dX0_writeTo_11 (by decide) (fun c => ?_) (fun c => ?_)
      · have hv := hv.1 c
        exact G_vret hC hr hk hE hv dX0_writeTo_51
      · have hv := hv.2 c
        refine lv_aload_n hx hb dX0_writeTo_14 rfl (lv_at hl 1 rfl) ?_
        refine lv_aload_n hx hb dX0_writeTo_15 rfl (lv_at hl 0 rfl) ?_
        refine G_get (v := .ref (a (37 + 4 * ix))) hC hE (fun _ h => List.mem_cons_of_mem _ (List.mem_append_left _ (List.mem_append_left _ (List.mem_append_right _ h)))) (f_copy hix) rfl 0 (by decide) (hts (.fieldLink RX0 9 "SeedBattle$Copy" "numbers" "[I") (List.mem_of_getElem? (i := 2) rfl)) rfl dX0_writeTo_16 ?_
        refine lv_iload_n hx hb dX0_writeTo_19 rfl (lv_at hl 2 rfl) ?_
        refine G_iald hC hE (f_cnums hix) hv.1 dX0_writeTo_20 ?_
        have hv := hv.2
        refine G_callNs hC.1 hC.2.2.2.2.1 (c_X6_turnOf l (g.1 (37 + 4 * ix) (Int32.toNatClampNeg v2)) _ hv) ⟨va_cnB 1 hts gX0_writeTo_X6_turnOf_n60 rfl rfl rfl (hC.2.2.2.2.1 _ (List.mem_of_getElem? (i := 16) rfl)) (hts _ (List.mem_of_getElem? (i := 10) rfl)) (by decide +kernel) ⟨Nat.le_of_ble_eq_true rfl, Nat.le_of_ble_eq_true rfl⟩, hts _ (List.mem_of_getElem? (i := 9) rfl), trivial⟩ rfl hl rfl (Nat.le_of_ble_eq_true rfl) dX0_writeTo_21 (Nat.zero_le _) (Nat.zero_le _) (fun r2 hv => ?_)
        refine lv_aload_n hx hb dX0_writeTo_24 rfl (lv_at hl 0 rfl) ?_
        refine G_get (v := .ref (a (37 + 4 * ix))) hC hE (fun _ h => List.mem_cons_of_mem _ (List.mem_append_left _ (List.mem_append_left _ (List.mem_append_right _ h)))) (f_copy hix) rfl 0 (by decide) (hts (.fieldLink RX0 9 "SeedBattle$Copy" "numbers" "[I") (List.mem_of_getElem? (i := 2) rfl)) rfl dX0_writeTo_25 ?_
        refine lv_iload_n hx hb dX0_writeTo_28 rfl (lv_at hl 2 rfl) ?_
        refine G_iald hC hE (f_cnums hix) hv.1 dX0_writeTo_29 ?_
        have hv := hv.2
        refine G_callNs hC.1 hC.2.2.2.2.1 (c_X6_placeOf l (g.1 (37 + 4 * ix) (Int32.toNatClampNeg v2)) _ hv) ⟨va_cnB 1 hts gX0_writeTo_X6_placeOf_n63 rfl rfl rfl (hC.2.2.2.2.1 _ (List.mem_of_getElem? (i := 17) rfl)) (hts _ (List.mem_of_getElem? (i := 10) rfl)) (by decide +kernel) ⟨Nat.le_of_ble_eq_true rfl, Nat.le_of_ble_eq_true rfl⟩, hts _ (List.mem_of_getElem? (i := 13) rfl), trivial⟩ rfl hl rfl (Nat.le_of_ble_eq_true rfl) dX0_writeTo_30 (Nat.zero_le _) (Nat.zero_le _) (fun r3 hv => ?_)
        refine lv_aload_n hx hb dX0_writeTo_33 rfl (lv_at hl 0 rfl) ?_
        refine G_get (v := .ref (a (37 + 4 * ix))) hC hE (fun _ h => List.mem_cons_of_mem _ (List.mem_append_left _ (List.mem_append_left _ (List.mem_append_right _ h)))) (f_copy hix) rfl 0 (by decide) (hts (.fieldLink RX0 9 "SeedBattle$Copy" "numbers" "[I") (List.mem_of_getElem? (i := 2) rfl)) rfl dX0_writeTo_34 ?_
        refine lv_iload_n hx hb dX0_writeTo_37 rfl (lv_at hl 2 rfl) ?_
        refine G_iald hC hE (f_cnums hix) hv.1 dX0_writeTo_38 ?_
        have hv := hv.2
        refine G_callNs hC.1 hC.2.2.2.2.1 (c_X6_unitOf l (g.1 (37 + 4 * ix) (Int32.toNatClampNeg v2)) _ hv) ⟨va_cnB 1 hts gX0_writeTo_X6_unitOf_n66 rfl rfl rfl (hC.2.2.2.2.1 _ (List.mem_of_getElem? (i := 18) rfl)) (hts _ (List.mem_of_getElem? (i := 10) rfl)) (by decide +kernel) ⟨Nat.le_of_ble_eq_true rfl, Nat.le_of_ble_eq_true rfl⟩, hts _ (List.mem_of_getElem? (i := 15) rfl), trivial⟩ rfl hl rfl (Nat.le_of_ble_eq_true rfl) dX0_writeTo_39 (Nat.zero_le _) (Nat.zero_le _) (fun r4 hv => ?_)
        refine G_callVv hC (c_X2_add l D cs az a (ix := ix) hix r2 r3 r4 g _ hv) (cwV 3 hts gX0_writeTo_X2_add rfl rfl rfl (by decide +kernel) ⟨Nat.le_of_ble_eq_true rfl, Nat.le_of_ble_eq_true rfl⟩) (f_index hix) rfl rfl hl rfl (Nat.le_of_ble_eq_true rfl) dX0_writeTo_42 hE (fun g5 H locs hv hE => ?_)
        refine lv_iinc (v := (v2 + 1)) (lv' := [(2, .int (v2 + 1)), (0, .ref (a (36 + 4 * ix))), (1, .ref (a (28 + 2 * ix)))]) hx hb dX0_writeTo_45 hl (k := 2) rfl rfl (by decide) rfl (fun ls hl => ?_)
        refine lv_goto (tgt := 6) hx hb dX0_writeTo_48 (by decide) ?_
        exact hK6 _ _  hv _ _ _ hE (lv_sub hl [1, 2, 0] rfl)
  refine lv_aload_n hx hb dX0_writeTo_0 rfl (lv_at hl 1 rfl) ?_
  refine G_callVv hC (c_X2_clear l D cs az a (ix := ix) hix  g _ hv) (cwV 0 hts gX0_writeTo_X2_clear rfl rfl rfl (by decide +kernel) ⟨Nat.le_of_ble_eq_true rfl, Nat.le_of_ble_eq_true rfl⟩) (f_index hix) rfl rfl hl rfl (Nat.le_of_ble_eq_true rfl) dX0_writeTo_1 hE (fun g1 H locs hv hE => ?_)
  refine lv_iconst (v := 0) hx hb dX0_writeTo_4 (by decide) ?_
  refine lv_istore_n (lv' := [(2, .int 0), (0, .ref (a (36 + 4 * ix))), (1, .ref (a (28 + 2 * ix)))]) hx hb dX0_writeTo_5 rfl hl (by decide) rfl (fun ls hl => ?_)
  exact j_6  _ _  hv _ _ _ hE (lv_sub hl [1, 2, 0] rfl)
